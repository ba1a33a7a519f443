/-! THE INDEX: where a number stands, whether a like one is there, room, names. -/
section IX
variable {X : Nat × (Nat → Int32)} {d : Nat} {h : List va_E} {Q : Option Value → List va_E → Prop} {I : List kL} {nx : Nat}
theorem ix_place1 (C : cI h I nx) (w : Int32) (i : Nat) (hi : i ≤ I.length) (H : ∀ (j : Nat) r, j < i → I[j]? = some r → ¬ nI (lNo r) = w) : rt_ X d 64 2 [some (.ref 4), some (.int w), some (.int (nI i))] [] h (fun v h' => h' = h ∧ ((∃ (p : Nat) (r : kL), I[p]? = some r ∧ nI (lNo r) = w ∧ v = some (.int (nI p))) ∨ ((∀ r ∈ I, ¬ nI (lNo r) = w) ∧ v = some (.int (-1))))) := by
  have C0 := C
  obtain ⟨F, c4, c5, hn, hx, HI⟩ := C
  refine rt_k (k := 2) (pc' := 4) (L' := [some (.ref 4), some (.int w), some (.int (nI i))]) (st' := [.ref 4, .int (nI i)]) (h' := h) (fun _ => rfl) ?_
  refine rt_gf rfl c4 rfl rfl ?_
  refine rt_ige rfl (by omega) (by omega) (fun z => ?_) (fun z => ?_)
  ·
    refine rt_k (k := 1) (pc' := 32) (L' := [some (.ref 4), some (.int w), some (.int (nI i))]) (st' := [.int (-1)]) (h' := h) (fun _ => rfl) ?_
    exact rt_r (v := some (.int (-1))) rfl rfl (⟨rfl, Or.inr ⟨fun r hr => by obtain ⟨j, hj⟩ := gt_mem hr; exact H j r (by have := gt_lt hj; omega) hj, rfl⟩⟩)
  obtain ⟨r, hr⟩ := gt_ex z
  obtain ⟨a, fa, v, nd, bk, ps, pf, ⟨-, ca⟩, -⟩ := HI i r hr
  refine rt_k (k := 1) (pc' := 11) (L' := [some (.ref 4), some (.int w), some (.int (nI i))]) (st' := [.ref 4]) (h' := h) (fun _ => rfl) ?_
  refine rt_gf rfl c4 rfl rfl ?_
  refine rt_k (k := 1) (pc' := 15) (L' := [some (.ref 4), some (.int w), some (.int (nI i))]) (st' := [.int (nI i), .ref 5]) (h' := h) (fun _ => rfl) ?_
  refine rt_aalN rfl c5 rfl (by omega) (by decide) fa ?_
  refine rt_gf rfl ca rfl rfl ?_
  refine rt_k (k := 1) (pc' := 20) (L' := [some (.ref 4), some (.int w), some (.int (nI i))]) (st' := [.int w, .int (nI (lNo r))]) (h' := h) (fun _ => rfl) ?_
  refine rt_jne rfl (fun z2 => ?_) (fun z2 => ?_)
  rotate_left
  ·
    refine rt_k (k := 1) (pc' := 24) (L' := [some (.ref 4), some (.int w), some (.int (nI i))]) (st' := [.int (nI i)]) (h' := h) (fun _ => rfl) ?_
    exact rt_r (v := some (.int (nI i))) rfl rfl (⟨rfl, Or.inl ⟨i, r, hr, z2, rfl⟩⟩)
  refine rt_inc (c := 1) rfl rfl ?_
  refine rt_k (k := 1) (pc' := 2) (L' := [some (.ref 4), some (.int w), some (.int (nI (i + 1)))]) (st' := []) (h' := h) (fun _ => rfl) ?_
  exact ix_place1 C0 w (i + 1) (by omega) (fun j r' hj hr' => by
    by_cases q : j = i
    · subst q; rw [hr] at hr'; cases hr'; exact z2
    · exact H j r' (by omega) hr')
termination_by I.length - i
theorem ix_place (C : cI h I nx) (w : Int32) : rt_ X d 64 0 [some (.ref 4), some (.int w), none] [] h (fun v h' => h' = h ∧ ((∃ (p : Nat) (r : kL), I[p]? = some r ∧ nI (lNo r) = w ∧ v = some (.int (nI p))) ∨ ((∀ r ∈ I, ¬ nI (lNo r) = w) ∧ v = some (.int (-1))))) := by
  refine rt_k (k := 2) (pc' := 2) (L' := [some (.ref 4), some (.int w), some (.int (nI 0))]) (st' := []) (h' := h) (fun _ => rfl) ?_
  exact ix_place1 C w 0 (by omega) (fun j r hj => absurd hj (Nat.not_lt_zero _))
/-! versions, tests, ranges -/
theorem vc_cong {f g F G : Nat → Int64} (a : ∀ i, i < 7 → f i = F i) (b : ∀ i, i < 7 → g i = G i) : ∀ n i, i + n = 7 → vn_c f g n i = vn_c F G n i
  | 0, _, _ => rfl
  | n + 1, i, h => by
    unfold vn_c
    rw [a i (by omega), b i (by omega), vc_cong a b n (i + 1) (by omega)]
def vc (u v : kV) : Int32 := vn_c (vk u) (vk v) 7 0
theorem ver_ag {a b : Nat} {u v : kV} (A : zV h a u) (B : zV h b v) : rt_ X d 58 0 [some (.ref a), some (.ref b), none] [] h (fun r h' => r = some (.int (vc u v)) ∧ h' = h) := by
  obtain ⟨k, f, a1, a2, a3⟩ := A
  obtain ⟨l, g, b1, b2, b3⟩ := B
  have q := vn_against (X := X) (d := d) (V := ⟨a1.2, a2.2⟩) (U := ⟨b1.2, b2.2⟩)
  rw [vc_cong a3 b3 7 0 rfl] at q
  exact q
theorem zV.c {a : Nat} {v : kV} (A : zV h a v) : ∃ k, h[a]? = some (.inr (8, [.ref k])) := by
  obtain ⟨k, f, a1, -⟩ := A
  exact ⟨k, a1.2⟩
def tfl (u : kV) (o : Option kV) (z : Int32) : Int32 := match o with
  | none => z
  | some l => vc u l
def tP (u : kV) (t : kT) : Bool := (ab_cd .gt (tfl u (tsO t).1 1) 0 || (!ab_cd .ne (tfl u (tsO t).1 1) 0 && (tsO t).2.1)) && (ab_cd .lt (tfl u (tsO t).2.2.1 (-1)) 0 || (!ab_cd .ne (tfl u (tsO t).2.2.1 (-1)) 0 && (tsO t).2.2.2))
theorem tst_2 {a b : Nat} {u : kV} {la ha : Option Nat} {wl wh : Bool} {hi : Option kV} (c : h[a]? = some (.inr (11, [ab_w la, .int (bI wl), ab_w ha, .int (bI wh)]))) (U : zV h b u) (H : zO h ha hi) (fl : Int32) : rt_ X (d + 1) 82 20 [some (.ref a), some (.ref b), some (.int fl), none] [] h (fun r h' => r = some (.int (ts_h fl (tfl u hi (-1)) wl wh)) ∧ h' = h) := by
  obtain ⟨ku, cu⟩ := U.c
  cases ha with
  | none =>
    cases hi with
    | some _ => exact absurd H id
    | none =>
      refine rt_k (k := 1) (pc' := 21) (L' := [some (.ref a), some (.ref b), some (.int fl), none]) (st' := [.ref a]) (h' := h) (fun _ => rfl) ?_
      refine rt_gf rfl c rfl rfl ?_
      refine rt_k (k := 4) (pc' := 40) (L' := [some (.ref a), some (.ref b), some (.int fl), some (.int (-1))]) (st' := []) (h' := h) (fun _ => rfl) ?_
      exact ts_2 c fl (-1)
  | some q =>
    cases hi with
    | none => exact absurd H id
    | some hv =>
      refine rt_k (k := 1) (pc' := 21) (L' := [some (.ref a), some (.ref b), some (.int fl), none]) (st' := [.ref a]) (h' := h) (fun _ => rfl) ?_
      refine rt_gf rfl c rfl rfl ?_
      refine rt_k (k := 3) (pc' := 33) (L' := [some (.ref a), some (.ref b), some (.int fl), none]) (st' := [.ref a, .ref b]) (h' := h) (fun _ => rfl) ?_
      refine rt_gf rfl c rfl rfl ?_
      refine rt_cvE rfl (by decide) cu rfl rfl rfl rfl (ver_ag U H) ?_
      refine rt_k (k := 1) (pc' := 40) (L' := [some (.ref a), some (.ref b), some (.int fl), some (.int (vc u hv))]) (st' := []) (h' := h) (fun _ => rfl) ?_
      exact ts_2 c fl (vc u hv)
theorem tst_holds {a b : Nat} {u : kV} {t : kT} (C : zT h a t) (U : zV h b u) : rt_ X (d + 1) 82 0 [some (.ref a), some (.ref b), none, none] [] h (fun r h' => r = some (.int (bI (tP u t))) ∧ h' = h) := by
  obtain ⟨la, ha, ⟨-, c⟩, c2, c3⟩ := C
  obtain ⟨ku, cu⟩ := U.c
  have fin : ∀ fl, fl = tfl u (tsO t).1 1 → rt_ X (d + 1) 82 20 [some (.ref a), some (.ref b), some (.int fl), none] [] h (fun r h' => r = some (.int (bI (tP u t))) ∧ h' = h) := fun fl e => by
    have q := tst_2 (X := X) (d := d) c U c3 fl
    rw [e] at q ⊢
    exact q
  generalize hlo : (tsO t).1 = lo at c2 fin
  cases la with
  | none =>
    cases lo with
    | some _ => exact absurd c2 id
    | none =>
      refine rt_k (k := 1) (pc' := 1) (L' := [some (.ref a), some (.ref b), none, none]) (st' := [.ref a]) (h' := h) (fun _ => rfl) ?_
      refine rt_gf rfl c rfl rfl ?_
      refine rt_k (k := 4) (pc' := 20) (L' := [some (.ref a), some (.ref b), some (.int (nI 1)), none]) (st' := []) (h' := h) (fun _ => rfl) ?_
      exact fin 1 rfl
  | some q =>
    cases lo with
    | none => exact absurd c2 id
    | some lv =>
      refine rt_k (k := 1) (pc' := 1) (L' := [some (.ref a), some (.ref b), none, none]) (st' := [.ref a]) (h' := h) (fun _ => rfl) ?_
      refine rt_gf rfl c rfl rfl ?_
      refine rt_k (k := 3) (pc' := 13) (L' := [some (.ref a), some (.ref b), none, none]) (st' := [.ref a, .ref b]) (h' := h) (fun _ => rfl) ?_
      refine rt_gf rfl c rfl rfl ?_
      refine rt_cvE rfl (by decide) cu rfl rfl rfl rfl (ver_ag U c2) ?_
      refine rt_k (k := 1) (pc' := 20) (L' := [some (.ref a), some (.ref b), some (.int (vc u lv)), none]) (st' := []) (h' := h) (fun _ => rfl) ?_
      exact fin (vc u lv) rfl
def rP (u : kV) (R : kR) : Prop := ∃ q ∈ R, ∀ t ∈ q, tP u t = true
end IX

