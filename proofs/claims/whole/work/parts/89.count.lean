/-! THE KEEPER'S CALLS, 4: count; the bits of a mask. -/
section KF
variable {X : Nat × (Nat → Int32)} {d : Nat} {h : List va_E} {Q : Option Value → List va_E → Prop} {I : List kL} {nx : Nat} {D : kD} {K : List kG} {made : Nat} {st : kS}
def cntP (a b c e f g : Nat) (w : Int32) (v : Option Value) : Prop := (w.toInt = 0 ∧ v = some (.int (nI a))) ∨ (w.toInt = 1 ∧ v = some (.int (nI b))) ∨ (w.toInt = 2 ∧ v = some (.int (nI c))) ∨ (w.toInt = 3 ∧ v = some (.int (nI e))) ∨ (w.toInt = 4 ∧ v = some (.int (nI f))) ∨ (w.toInt = 5 ∧ v = some (.int (nI g))) ∨ ((w.toInt < 0 ∨ 5 < w.toInt) ∧ v = some (.int (-1)))
theorem kp_count {g : kG} {T : List Nat} (K0 : pk0 h) (P : tp_ h 1 2 T) (CI : cI h I nx) (CR : cR h D) (CH : cH h K made st) (hg : K[K.length - 1]? = some g) (w : Int32) : rt_ X (d + 2) 122 0 [some (.ref 0), some (.int w)] [] h (fun v h' => h' = h ∧ cntP I.length D.length g.length K.length made T.length w v) := by
  obtain ⟨F, hC0, k1, k4, hm6, HK⟩ := id CH
  obtain ⟨SN, SC, c14, -⟩ := id hC0
  obtain ⟨F0, d4, -⟩ := id CI
  obtain ⟨N, G, e6, -⟩ := id CR
  obtain ⟨a, fa, za⟩ := HK _ g hg
  obtain ⟨od, ci, ca⟩ := za.c
  have p1 := P.1
  refine rt_n rfl ?_
  refine rt_t6 rfl (by decide) (fun q => ?_) (fun q => ?_) (fun q => ?_) (fun q => ?_) (fun q => ?_) (fun q => ?_) (fun q => ?_)
  · have t0 := trivial
    refine rt_k (k := 1) (pc' := 92) (L' := [some (.ref 0), some (.int w)]) (st' := [.int (-1)]) (h' := h) (fun _ => rfl) ?_
    exact rt_r (v := some (.int (-1))) rfl rfl (⟨rfl, Or.inr (Or.inr (Or.inr (Or.inr (Or.inr (Or.inr ⟨q, rfl⟩)))))⟩)
  · have t0 := trivial
    refine rt_k (k := 1) (pc' := 41) (L' := [some (.ref 0), some (.int w)]) (st' := [.ref 0]) (h' := h) (fun _ => rfl) ?_
    refine rt_gf rfl K0 rfl rfl ?_
    refine rt_cvE (v := some (.int (nI I.length))) (h' := h) rfl (by decide) d4 rfl rfl rfl rfl ?_ ?_
    · refine rt_k (k := 1) (pc' := 1) (L' := [some (.ref 4)]) (st' := [.ref 4]) (h' := h) (fun _ => rfl) ?_
      refine rt_gf rfl d4 rfl rfl ?_
      exact rt_r (v := some (.int (nI I.length))) rfl rfl ⟨rfl, rfl⟩
    exact rt_r (v := some (.int (nI I.length))) rfl rfl (⟨rfl, Or.inl ⟨q, rfl⟩⟩)
  · have t0 := trivial
    refine rt_k (k := 1) (pc' := 49) (L' := [some (.ref 0), some (.int w)]) (st' := [.ref 0]) (h' := h) (fun _ => rfl) ?_
    refine rt_gf rfl K0 rfl rfl ?_
    refine rt_cvE (v := some (.int (nI D.length))) (h' := h) rfl (by decide) e6 rfl rfl rfl rfl ?_ ?_
    · refine rt_k (k := 1) (pc' := 1) (L' := [some (.ref 6)]) (st' := [.ref 6]) (h' := h) (fun _ => rfl) ?_
      refine rt_gf rfl e6 rfl rfl ?_
      exact rt_r (v := some (.int (nI D.length))) rfl rfl ⟨rfl, rfl⟩
    exact rt_r (v := some (.int (nI D.length))) rfl rfl (⟨rfl, Or.inr (Or.inl ⟨q, rfl⟩)⟩)
  · have t0 := trivial
    refine rt_k (k := 1) (pc' := 57) (L' := [some (.ref 0), some (.int w)]) (st' := [.ref 0]) (h' := h) (fun _ => rfl) ?_
    refine rt_gf rfl K0 rfl rfl ?_
    refine rt_cvE rfl (by decide) c14 rfl rfl rfl rfl (his_top hC0 k1 k4 fa) ?_
    refine rt_cvE (v := some (.int (nI g.length))) (h' := h) rfl (by decide) ca rfl rfl rfl rfl ?_ ?_
    · refine rt_k (k := 1) (pc' := 1) (L' := [some (.ref a)]) (st' := [.ref a]) (h' := h) (fun _ => rfl) ?_
      refine rt_gf rfl ca rfl rfl ?_
      exact rt_r (v := some (.int (nI g.length))) rfl rfl ⟨rfl, rfl⟩
    exact rt_r (v := some (.int (nI g.length))) rfl rfl (⟨rfl, Or.inr (Or.inr (Or.inl ⟨q, rfl⟩))⟩)
  · have t0 := trivial
    refine rt_k (k := 1) (pc' := 68) (L' := [some (.ref 0), some (.int w)]) (st' := [.ref 0]) (h' := h) (fun _ => rfl) ?_
    refine rt_gf rfl K0 rfl rfl ?_
    refine rt_cvE (v := some (.int (nI K.length))) (h' := h) rfl (by decide) c14 rfl rfl rfl rfl ?_ ?_
    · refine rt_k (k := 1) (pc' := 1) (L' := [some (.ref 14)]) (st' := [.ref 14]) (h' := h) (fun _ => rfl) ?_
      refine rt_gf rfl c14 rfl rfl ?_
      exact rt_r (v := some (.int (nI K.length))) rfl rfl ⟨rfl, rfl⟩
    exact rt_r (v := some (.int (nI K.length))) rfl rfl (⟨rfl, Or.inr (Or.inr (Or.inr (Or.inl ⟨q, rfl⟩)))⟩)
  · have t0 := trivial
    refine rt_k (k := 1) (pc' := 76) (L' := [some (.ref 0), some (.int w)]) (st' := [.ref 0]) (h' := h) (fun _ => rfl) ?_
    refine rt_gf rfl K0 rfl rfl ?_
    refine rt_cvE (v := some (.int (nI made))) (h' := h) rfl (by decide) c14 rfl rfl rfl rfl ?_ ?_
    · refine rt_k (k := 1) (pc' := 1) (L' := [some (.ref 14)]) (st' := [.ref 14]) (h' := h) (fun _ => rfl) ?_
      refine rt_gf rfl c14 rfl rfl ?_
      exact rt_r (v := some (.int (nI made))) rfl rfl ⟨rfl, rfl⟩
    exact rt_r (v := some (.int (nI made))) rfl rfl (⟨rfl, Or.inr (Or.inr (Or.inr (Or.inr (Or.inl ⟨q, rfl⟩))))⟩)
  · have t0 := trivial
    refine rt_k (k := 1) (pc' := 84) (L' := [some (.ref 0), some (.int w)]) (st' := [.ref 0]) (h' := h) (fun _ => rfl) ?_
    refine rt_gf rfl K0 rfl rfl ?_
    refine rt_cvE (v := some (.int (nI T.length))) (h' := h) rfl (by decide) p1 rfl rfl rfl rfl ?_ ?_
    · refine rt_k (k := 1) (pc' := 1) (L' := [some (.ref 1)]) (st' := [.ref 1]) (h' := h) (fun _ => rfl) ?_
      refine rt_gf rfl p1 rfl rfl ?_
      exact rt_r (v := some (.int (nI T.length))) rfl rfl ⟨rfl, rfl⟩
    exact rt_r (v := some (.int (nI T.length))) rfl rfl (⟨rfl, Or.inr (Or.inr (Or.inr (Or.inr (Or.inr (Or.inl ⟨q, rfl⟩)))))⟩)
end KF

