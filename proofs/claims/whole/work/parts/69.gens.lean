/-! GENERATIONS and their HISTORY. -/
abbrev kG : Type := List (kL × Nat)
def zGf (h : List va_E) (F : Nat → Option Nat) (S : Nat → Int32) (g : kG) : Prop := ∀ i e, g[i]? = some e → S i = nI e.2 ∧ ∃ a, F i = some a ∧ zL h a e.1
def zG (h : List va_E) (a : Nat) (g : kG) : Prop := ∃ (od ci : Nat) (F : Nat → Option Nat) (S : Nat → Int32), z_ h a (.inr (7, [.ref od, .ref ci, .int (nI g.length)])) ∧ z_ h od (.inl (5, g.length, .inr (.inr (.inr (.inr F))))) ∧ z_ h ci (.inl (2, g.length, .inl S)) ∧ g.length ≤ 8 ∧ zGf h F S g
theorem zG.ex {h h' : List va_E} {a : Nat} {g : kG} (E : ex_ h h') (C : zG h a g) : zG h' a g := by
  obtain ⟨od, ci, F, S, c1, c2, c3, c4, c5⟩ := C
  exact ⟨od, ci, F, S, E _ _ c1, E _ _ c2, E _ _ c3, c4, fun i e he => by obtain ⟨u, b, f, z⟩ := c5 i e he; exact ⟨u, b, f, z.ex E⟩⟩
def dI (j : Nat) : Int32 := if j = 0 then -1 else nI (j - 1)
theorem dI_s (j : Nat) : dI (j + 1) = nI j := by unfold dI; rw [if_neg (by omega), Nat.add_sub_cancel]
theorem dI_lt {j : Nat} (hj : j < 2147483648) : dI j < 0 ↔ j = 0 := by
  cases j with
  | zero => exact ⟨fun _ => rfl, fun _ => by decide⟩
  | succ j => rw [dI_s]; exact ⟨fun q => absurd ((nI_ltI (b := 0) (by omega) (by decide)).mp q) (Nat.not_lt_zero _), fun q => by omega⟩
theorem dI_d (a : Nat) : nI a + Int32.ofInt (-1) = dI a := by
  cases a with
  | zero => decide
  | succ a =>
    rw [dI_s, ← nI_add, show Int32.ofInt (-1) = - nI 1 from by decide, ← Int32.sub_eq_add_neg, Int32.add_sub_cancel]
theorem rt_dcr {X : Nat × (Nat → Int32)} {d M pc r : Nat} {L : ab_Lo} {st : List Value} {h : List va_E} {Q : Option Value → List va_E → Prop} {i a : Nat} (hi : ab_k (tb_il M) pc = some (.iinc i (-1), r)) (hL : L[i]? = some (some (.int (nI a)))) (k : rt_ X d M (pc + 3) (ab_s1 L i (.int (dI a))) st h Q) : rt_ X d M pc L st h Q :=
  rt_s1 hi (by simp only [ab_x, ab_n, hL, dI_d]) k
section GE
variable {X : Nat × (Nat → Int32)} {d : Nat} {h : List va_E} {Q : Option Value → List va_E → Prop}
def inG (g : kG) (w : Int32) : Prop := ∃ e ∈ g, nI (lNo e.1) = w
theorem gen_has1 {a : Nat} {g : kG} (C : zG h a g) (w : Int32) (i : Nat) (hi : i ≤ g.length) (H : ∀ (j : Nat) e, j < i → g[j]? = some e → ¬ nI (lNo e.1) = w) : rt_ X d 106 2 [some (.ref a), some (.int w), some (.int (nI i))] [] h (fun v h' => v = some (.int (tB (inG g w))) ∧ h' = h) := by
  obtain ⟨od, ci, F, S, ⟨-, c1⟩, ⟨-, c2⟩, ⟨-, c3⟩, hn, HG⟩ := id C
  refine rt_k (k := 2) (pc' := 4) (L' := [some (.ref a), some (.int w), some (.int (nI i))]) (st' := [.ref a, .int (nI i)]) (h' := h) (fun _ => rfl) ?_
  refine rt_gf rfl c1 rfl rfl ?_
  refine rt_ige rfl (by omega) (by omega) (fun z => ?_) (fun z => ?_)
  ·
    refine rt_k (k := 1) (pc' := 32) (L' := [some (.ref a), some (.int w), some (.int (nI i))]) (st' := [.int (nI 0)]) (h' := h) (fun _ => rfl) ?_
    exact rt_r (v := some (.int (nI 0))) rfl rfl (⟨ret0 (by rintro ⟨e, he, q⟩; obtain ⟨j, hj⟩ := gt_mem he; exact H j e (by have := gt_lt hj; omega) hj q), rfl⟩)
  obtain ⟨e, he⟩ := gt_ex z
  obtain ⟨-, b, fb, v, nd, bk, ps, pf, ⟨-, cb⟩, -⟩ := HG i e he
  refine rt_k (k := 1) (pc' := 11) (L' := [some (.ref a), some (.int w), some (.int (nI i))]) (st' := [.ref a]) (h' := h) (fun _ => rfl) ?_
  refine rt_gf rfl c1 rfl rfl ?_
  refine rt_k (k := 1) (pc' := 15) (L' := [some (.ref a), some (.int w), some (.int (nI i))]) (st' := [.int (nI i), .ref od]) (h' := h) (fun _ => rfl) ?_
  refine rt_aalN rfl c2 rfl (by omega) (by omega) fb ?_
  refine rt_gf rfl cb rfl rfl ?_
  refine rt_k (k := 1) (pc' := 20) (L' := [some (.ref a), some (.int w), some (.int (nI i))]) (st' := [.int w, .int (nI (lNo e.1))]) (h' := h) (fun _ => rfl) ?_
  refine rt_jne rfl (fun z2 => ?_) (fun z2 => ?_)
  rotate_left
  ·
    refine rt_k (k := 1) (pc' := 24) (L' := [some (.ref a), some (.int w), some (.int (nI i))]) (st' := [.int (nI 1)]) (h' := h) (fun _ => rfl) ?_
    exact rt_r (v := some (.int (nI 1))) rfl rfl (⟨ret1 ⟨e, gt_in he, z2⟩, rfl⟩)
  refine rt_inc (c := 1) rfl rfl ?_
  refine rt_k (k := 1) (pc' := 2) (L' := [some (.ref a), some (.int w), some (.int (nI (i + 1)))]) (st' := []) (h' := h) (fun _ => rfl) ?_
  exact gen_has1 C w (i + 1) z (fun j e' hj he' => by
    by_cases q : j = i
    · subst q; rw [he] at he'; cases he'; exact z2
    · exact H j e' (by omega) he')
termination_by g.length - i
theorem gen_has {a : Nat} {g : kG} (C : zG h a g) (w : Int32) : rt_ X d 106 0 [some (.ref a), some (.int w), none] [] h (fun v h' => v = some (.int (tB (inG g w))) ∧ h' = h) := by
  refine rt_k (k := 2) (pc' := 2) (L' := [some (.ref a), some (.int w), some (.int (nI 0))]) (st' := []) (h' := h) (fun _ => rfl) ?_
  exact gen_has1 C w 0 (Nat.zero_le _) (fun j e hj => absurd hj (Nat.not_lt_zero _))
/-- two of a generation own one path -/
def clP (g : kG) : Prop := ∃ (i j : Nat) (e f : kL × Nat), j < i ∧ g[i]? = some e ∧ g[j]? = some f ∧ shP e.1 f.1
theorem gen_sh_in {a i : Nat} {g : kG} {e : kL × Nat} (C : zG h a g) (he : g[i]? = some e) (k : (∀ (j : Nat) f, j < i → g[j]? = some f → ¬ shP e.1 f.1) → rt_ X (d + 2) 101 43 [some (.ref a), some (.int (nI i)), some (.int (nI i))] [] h (fun v h' => v = some (.int (tB (clP g))) ∧ h' = h)) (j : Nat) (hj : j ≤ i) (H : ∀ (l : Nat) f, l < j → g[l]? = some f → ¬ shP e.1 f.1) : rt_ X (d + 2) 101 12 [some (.ref a), some (.int (nI i)), some (.int (nI j))] [] h (fun v h' => v = some (.int (tB (clP g))) ∧ h' = h) := by
  obtain ⟨od, ci, F, S, ⟨-, c1⟩, ⟨-, c2⟩, ⟨-, c3⟩, hn, HG⟩ := id C
  have hi := gt_lt he
  refine rt_k (k := 2) (pc' := 14) (L' := [some (.ref a), some (.int (nI i)), some (.int (nI j))]) (st' := [.int (nI i), .int (nI j)]) (h' := h) (fun _ => rfl) ?_
  refine rt_ige rfl (by omega) (by omega) (fun z => ?_) (fun z => ?_)
  ·
    have ej : j = i := by omega
    subst ej
    exact k H
  obtain ⟨f, hf⟩ := gt_ex (l := g) (i := j) (by omega)
  obtain ⟨-, b, fb, zb⟩ := HG i e he
  obtain ⟨-, b', fb', zb'⟩ := HG j f hf
  obtain ⟨v, nd, bk, ps, pf, ⟨-, cb⟩, -⟩ := id zb
  refine rt_k (k := 1) (pc' := 18) (L' := [some (.ref a), some (.int (nI i)), some (.int (nI j))]) (st' := [.ref a]) (h' := h) (fun _ => rfl) ?_
  refine rt_gf rfl c1 rfl rfl ?_
  refine rt_k (k := 1) (pc' := 22) (L' := [some (.ref a), some (.int (nI i)), some (.int (nI j))]) (st' := [.int (nI i), .ref od]) (h' := h) (fun _ => rfl) ?_
  refine rt_aalN rfl c2 rfl (by omega) (by omega) fb ?_
  refine rt_k (k := 1) (pc' := 24) (L' := [some (.ref a), some (.int (nI i)), some (.int (nI j))]) (st' := [.ref a, .ref b]) (h' := h) (fun _ => rfl) ?_
  refine rt_gf rfl c1 rfl rfl ?_
  refine rt_k (k := 1) (pc' := 28) (L' := [some (.ref a), some (.int (nI i)), some (.int (nI j))]) (st' := [.int (nI j), .ref od, .ref b]) (h' := h) (fun _ => rfl) ?_
  refine rt_aalN rfl c2 rfl (by omega) (by omega) fb' ?_
  refine rt_cvE rfl (by decide) cb rfl rfl rfl rfl (rel_shares zb zb') ?_
  refine rt_pe rfl (fun zs => ?_) (fun zs => ?_)
  rotate_left
  ·
    refine rt_k (k := 1) (pc' := 36) (L' := [some (.ref a), some (.int (nI i)), some (.int (nI j))]) (st' := [.int (nI 1)]) (h' := h) (fun _ => rfl) ?_
    exact rt_r (v := some (.int (nI 1))) rfl rfl (⟨ret1 ⟨i, j, e, f, z, he, hf, zs⟩, rfl⟩)
  refine rt_inc (c := 1) rfl rfl ?_
  refine rt_k (k := 1) (pc' := 12) (L' := [some (.ref a), some (.int (nI i)), some (.int (nI (j + 1)))]) (st' := []) (h' := h) (fun _ => rfl) ?_
  exact gen_sh_in C he k (j + 1) z (fun l f' hl hf' => by
    by_cases q : l = j
    · subst q; rw [hf] at hf'; cases hf'; exact zs
    · exact H l f' (by omega) hf')
termination_by i - j
theorem gen_sh_out {a : Nat} {g : kG} (C : zG h a g) (i : Nat) (hi : i ≤ g.length) (H : ∀ (l m : Nat) e f, l < i → m < l → g[l]? = some e → g[m]? = some f → ¬ shP e.1 f.1) (x : Option Value) : rt_ X (d + 2) 101 2 [some (.ref a), some (.int (nI i)), x] [] h (fun v h' => v = some (.int (tB (clP g))) ∧ h' = h) := by
  obtain ⟨od, ci, F, S, ⟨-, c1⟩, ⟨-, c2⟩, ⟨-, c3⟩, hn, HG⟩ := id C
  refine rt_k (k := 2) (pc' := 4) (L' := [some (.ref a), some (.int (nI i)), x]) (st' := [.ref a, .int (nI i)]) (h' := h) (fun _ => rfl) ?_
  refine rt_gf rfl c1 rfl rfl ?_
  refine rt_ige rfl (by omega) (by omega) (fun z => ?_) (fun z => ?_)
  · refine rt_n rfl ?_
    refine rt_r (v := some (.int (nI 0))) rfl rfl ⟨ret0 ?_, rfl⟩
    rintro ⟨l, m, e, f, h1, h2, h3, h4⟩
    exact H l m e f (by have := gt_lt h2; omega) h1 h2 h3 h4
  obtain ⟨e, he⟩ := gt_ex z
  refine rt_k (k := 2) (pc' := 12) (L' := [some (.ref a), some (.int (nI i)), some (.int (nI 0))]) (st' := []) (h' := h) (fun _ => rfl) ?_
  refine gen_sh_in C he (fun H2 => ?_) 0 (Nat.zero_le _) (fun l f hl => absurd hl (Nat.not_lt_zero _))
  refine rt_inc (c := 1) rfl rfl ?_
  refine rt_n rfl ?_
  exact gen_sh_out C (i + 1) z (fun l m e' f hl hm he' hf => by
    by_cases q : l = i
    · subst q; rw [he] at he'; cases he'; exact H2 m f hm hf
    · exact H l m e' f (by omega) hm he' hf) _
termination_by g.length - i
theorem gen_shares {a : Nat} {g : kG} (C : zG h a g) : rt_ X (d + 2) 101 0 [some (.ref a), none, none] [] h (fun v h' => v = some (.int (tB (clP g))) ∧ h' = h) := by
  refine rt_k (k := 2) (pc' := 2) (L' := [some (.ref a), some (.int (nI 0)), none]) (st' := []) (h' := h) (fun _ => rfl) ?_
  exact gen_sh_out C 0 (Nat.zero_le _) (fun l m e f hl => absurd hl (Nat.not_lt_zero _)) _
end GE

