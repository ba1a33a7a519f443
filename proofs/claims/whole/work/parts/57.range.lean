/-! A RANGE's has: nc choices, of nt c tests each, R c i. -/
abbrev ts_V : Type := Option (Nat → Int64) × Bool × Option (Nat → Int64) × Bool
def ts_p (V : Nat → Int64) (t : ts_V) : Bool := (ab_cd .gt (ts_f V t.1 1) 0 || (!ab_cd .ne (ts_f V t.1 1) 0 && t.2.1)) && (ab_cd .lt (ts_f V t.2.2.1 (-1)) 0 || (!ab_cd .ne (ts_f V t.2.2.1 (-1)) 0 && t.2.2.2))
def rg_ (h : List va_E) (a nc : Nat) (nt : Nat → Nat) (R : Nat → Nat → ts_V) : Prop := ∃ (tt sz : Nat) (F : Nat → Option Nat) (S : Nat → Int32), h[a]? = some (.inr (10, [.ref tt, .ref sz, .int (nI nc)])) ∧ h[tt]? = some (.inl (8, 16, .inr (.inr (.inr (.inr F))))) ∧ h[sz]? = some (.inl (2, 4, .inl S)) ∧ nc ≤ 4 ∧ ∀ c, c < nc → S c = nI (nt c) ∧ nt c ≤ 4 ∧ ∀ i, i < nt c → ∃ ta, F (c * 4 + i) = some ta ∧ ts_ h ta (R c i).1 (R c i).2.1 (R c i).2.2.1 (R c i).2.2.2
def rg_a (V : Nat → Int64) (R : Nat → ts_V) : Nat → Nat → Bool
  | 0, _ => true
  | n + 1, i => ts_p V (R i) && rg_a V R n (i + 1)
def rg_o (V : Nat → Int64) (nt : Nat → Nat) (R : Nat → Nat → ts_V) : Nat → Nat → Bool
  | 0, _ => false
  | n + 1, c => rg_a V (R c) (nt c) 0 || rg_o V nt R n (c + 1)
theorem bI_e (b : Bool) : ab_cd .eq (bI b) 0 = !b := by cases b <;> decide
section RG
variable {X : Nat × (Nat → Int32)} {d a v k nc : Nat} {nt : Nat → Nat} {R : Nat → Nat → ts_V} {V : Nat → Int64} {h : List va_E} {Q : Option Value → List va_E → Prop}
set_option maxRecDepth 10000 in
theorem rg_in (C : rg_ h a nc nt R) (U : vn_ h v k V) {c : Nat} (hc : c < nc) : ∀ (n i : Nat) (b : Bool), i + n = nt c → (∀ j, rt_ X (d + 2) 81 52 [some (.ref a), some (.ref v), some (.int (nI c)), some (.int (bI (b && rg_a V (R c) n i))), some (.int j)] [] h Q) → rt_ X (d + 2) 81 15 [some (.ref a), some (.ref v), some (.int (nI c)), some (.int (bI b)), some (.int (nI i))] [] h Q := by
  obtain ⟨tt, sz, F, S, c1, c2, c3, hn, H⟩ := C
  obtain ⟨s1, s2, s3⟩ := H c hc
  have hx : ab_ix (nI c) 4 = false := tp_ix (by omega) (by decide)
  intro n
  induction n with
  | zero =>
    intro i b hi kk
    refine rt_n rfl ?_
    refine rt_n rfl ?_
    refine rt_gf rfl c1 rfl rfl ?_
    refine rt_n rfl ?_
    refine rt_ial rfl c3 rfl hx ?_
    rw [nI_clamp (by omega), s1]
    refine rt_ic rfl (fun _ => ?_) (fun z => ?_)
    · have h1 := kk (nI i)
      rw [show rg_a V (R c) 0 i = true from rfl, Bool.and_true] at h1
      exact h1
    · exfalso
      have z1 : ¬ nI (nt c) ≤ nI i := of_decide_eq_false z
      rw [nI_leI (by omega) (by omega)] at z1
      omega
  | succ n ih =>
    intro i b hi kk
    refine rt_n rfl ?_
    refine rt_n rfl ?_
    refine rt_gf rfl c1 rfl rfl ?_
    refine rt_n rfl ?_
    refine rt_ial rfl c3 rfl hx ?_
    rw [nI_clamp (by omega), s1]
    refine rt_ic rfl (fun z => ?_) (fun _ => ?_)
    · exfalso
      have z1 : nI (nt c) ≤ nI i := of_decide_eq_true z
      rw [nI_leI (by omega) (by omega)] at z1
      omega
    refine rt_n rfl ?_
    refine rt_if rfl (fun z => ?_) (fun z => ?_)
    · rw [bI_e] at z
      have hb : b = false := by cases b <;> simp_all
      subst hb
      exact kk (nI i)
    · rw [bI_e] at z
      have hb : b = true := by cases b <;> simp_all
      subst hb
      obtain ⟨ta, f1, f2⟩ := s3 i (by omega)
      have e4 : nI c * Int32.ofInt 4 + nI i = nI (c * 4 + i) := by
        show nI c * nI 4 + nI i = _
        rw [pk_mul, nI_add]
      refine rt_n rfl ?_
      refine rt_gf rfl c1 rfl rfl ?_
      refine rt_n rfl ?_
      refine rt_n rfl ?_
      refine rt_n rfl ?_
      refine rt_n rfl ?_
      refine rt_n rfl ?_
      show rt_ X (d + 2) 81 40 [some (.ref a), some (.ref v), some (.int (nI c)), some (.int (bI true)), some (.int (nI i))] [.int (nI c * Int32.ofInt 4 + nI i), .ref tt] h Q
      rw [e4]
      refine rt_aal rfl c2 rfl (tp_ix (by omega) (by decide)) ?_
      rw [nI_clamp (by omega), f1]
      refine rt_n rfl ?_
      have f3 := f2
      obtain ⟨la, ha, g1, -⟩ := f3
      refine rt_cv rfl (by decide) g1 rfl rfl rfl rfl (ts_holds f2 U) ?_
      rintro r h1 ⟨rfl, rfl⟩
      refine rt_n rfl ?_
      refine rt_n rfl ?_
      refine rt_n rfl ?_
      have e5 : nI i + Int32.ofInt 1 = nI (i + 1) := nI_add i 1
      show rt_ X (d + 2) 81 15 [some (.ref a), some (.ref v), some (.int (nI c)), some (.int (bI (ts_p V (R c i)))), some (.int (nI i + Int32.ofInt 1))] [] _ Q
      rw [e5]
      refine ih (i + 1) (ts_p V (R c i)) (by omega) (fun j => ?_)
      have h2 := kk j
      rw [Bool.true_and, show rg_a V (R c) (n + 1) i = (ts_p V (R c i) && rg_a V (R c) n (i + 1)) from rfl] at h2
      exact h2
set_option maxRecDepth 10000 in
theorem rg_out (C : rg_ h a nc nt R) (U : vn_ h v k V) : ∀ (n c : Nat) (x y : Option Value), c + n = nc → rt_ X (d + 2) 81 2 [some (.ref a), some (.ref v), some (.int (nI c)), x, y] [] h (fun r h' => r = some (.int (bI (rg_o V nt R n c))) ∧ h' = h) := by
  have C0 := C
  obtain ⟨tt, sz, F, S, c1, c2, c3, hn, H⟩ := C0
  intro n
  induction n with
  | zero =>
    intro c x y hc
    refine rt_n rfl ?_
    refine rt_n rfl ?_
    refine rt_gf rfl c1 rfl rfl ?_
    refine rt_ic rfl (fun _ => ?_) (fun z => ?_)
    · refine rt_n rfl ?_
      exact rt_r (v := some (.int 0)) rfl rfl ⟨rfl, rfl⟩
    · exfalso
      have z1 : ¬ nI nc ≤ nI c := of_decide_eq_false z
      rw [nI_leI (by omega) (by omega)] at z1
      omega
  | succ n ih =>
    intro c x y hc
    refine rt_n rfl ?_
    refine rt_n rfl ?_
    refine rt_gf rfl c1 rfl rfl ?_
    refine rt_ic rfl (fun z => ?_) (fun _ => ?_)
    · exfalso
      have z1 : nI nc ≤ nI c := of_decide_eq_true z
      rw [nI_leI (by omega) (by omega)] at z1
      omega
    refine rt_k (k := 4) (pc' := 15) (L' := [some (.ref a), some (.ref v), some (.int (nI c)), some (.int (bI true)), some (.int (nI 0))]) (st' := []) (h' := h) (fun _ => rfl) ?_
    refine rg_in C U (c := c) (by omega) (nt c) 0 true (by omega) (fun j => ?_)
    rw [Bool.true_and]
    refine rt_n rfl ?_
    have e1 : rg_o V nt R (n + 1) c = (rg_a V (R c) (nt c) 0 || rg_o V nt R n (c + 1)) := rfl
    rw [e1]
    refine rt_if rfl (fun z => ?_) (fun z => ?_)
    · rw [bI_e] at z
      have hb : rg_a V (R c) (nt c) 0 = false := by simpa using z
      rw [hb, Bool.false_or]
      have e2 : nI c + Int32.ofInt 1 = nI (c + 1) := nI_add c 1
      refine rt_n rfl ?_
      refine rt_n rfl ?_
      show rt_ X (d + 2) 81 2 [some (.ref a), some (.ref v), some (.int (nI c + Int32.ofInt 1)), some (.int (bI false)), some (.int j)] [] h _
      rw [e2]
      exact ih (c + 1) _ _ (by omega)
    · rw [bI_e] at z
      have hb : rg_a V (R c) (nt c) 0 = true := by simpa using z
      rw [hb, Bool.true_or]
      refine rt_n rfl ?_
      exact rt_r (v := some (.int 1)) rfl rfl ⟨rfl, rfl⟩
theorem rg_has (C : rg_ h a nc nt R) (U : vn_ h v k V) : rt_ X (d + 2) 81 0 [some (.ref a), some (.ref v), none, none, none] [] h (fun r h' => r = some (.int (bI (rg_o V nt R nc 0))) ∧ h' = h) := by
  refine rt_n rfl ?_
  refine rt_n rfl ?_
  exact rg_out C U nc 0 none none (by omega)
end RG
