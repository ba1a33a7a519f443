/-! THE KEEPER'S CALLS, 1: those that read no tape. -/
abbrev cA : Nat → Prop := fun z => 1 ≤ z ∧ z ≤ 17
theorem cA_zz : ∀ k, zz k → ¬ cA k := by intro k q; unfold zz at q; unfold cA; omega
theorem sB_cA : ∀ k, sB k → cA k := by intro k q; unfold sB at q; unfold cA; omega
theorem hA_cA : ∀ k, hA k → cA k := by intro k q; unfold hA at q; unfold cA; omega
/-- what was learnt, without a heap -/
def lSS (I : List kL) (D : kD) (gn : Nat → Int64) (riv ned : Nat → Nat → Prop) (rg op : Nat → Prop) (li so : Prop) (fo : Nat → Prop) : Prop := lSp I D gn riv ned rg op li ∧ ((so ∧ li ∧ cho I.length (lG I) (lM I) riv ned rg (lG I) (fun _ => False) op = some fo) ∨ (¬ so ∧ (¬ li ∨ cho I.length (lG I) (lM I) riv ned rg (lG I) (fun _ => False) op = none)))
def cSo (h : List va_E) (I : List kL) (D : kD) : Prop := ∃ le, sZ h le ∧ (le → ∃ so fo, sL h I D so fo)
theorem sL.z {h : List va_E} {I : List kL} {D : kD} {so : Prop} {fo : Nat → Prop} (C : sL h I D so fo) : sZ h True := by
  obtain ⟨gn, riv, ned, rg, op, li, ⟨M, N, R, E, nx, c9, c10, c11, c12, c13, -⟩, -⟩ := C
  refine ⟨_, _, _, _, _, _, M, N, R, E, c9, c10, c11, c12, c13, ?_, ?_⟩
  · by_cases q : li
    · rw [tB_t q]; exact Or.inr rfl
    · rw [tB_f q]; exact Or.inl rfl
  · by_cases q : so
    · rw [tB_t q]; exact Or.inr rfl
    · rw [tB_f q]; exact Or.inl rfl
theorem sL.c {h : List va_E} {I : List kL} {D : kD} {so : Prop} {fo : Nat → Prop} (C : sL h I D so fo) : cSo h I D := ⟨True, C.z, fun _ => ⟨so, fo, C⟩⟩
theorem sL.fm {h h' : List va_E} {I : List kL} {D : kD} {so : Prop} {fo : Nat → Prop} (C : sL h I D so fo) (e4 : h'[4]? = h[4]?) (e : ∀ k, sB k → h'[k]? = h[k]?) : sL h' I D so fo := by
  obtain ⟨gn, riv, ned, rg, op, li, ⟨M, N, R, E, nx, c9, c10, c11, c12, c13, c4, x⟩, y⟩ := C
  exact ⟨gn, riv, ned, rg, op, li, ⟨M, N, R, E, nx, (e 9 (by decide)).trans c9, (e 10 (by decide)).trans c10, (e 11 (by decide)).trans c11, (e 12 (by decide)).trans c12, (e 13 (by decide)).trans c13, e4.trans c4, x⟩, y⟩
theorem sZ.fm {h h' : List va_E} {le : Prop} (C : sZ h le) (e : ∀ k, sB k → h'[k]? = h[k]?) : sZ h' le := by
  obtain ⟨G0, rg, op, li, so, fo, M, N, R, E, c9, c10, c11, c12, c13, x⟩ := C
  exact ⟨G0, rg, op, li, so, fo, M, N, R, E, (e 9 (by decide)).trans c9, (e 10 (by decide)).trans c10, (e 11 (by decide)).trans c11, (e 12 (by decide)).trans c12, (e 13 (by decide)).trans c13, x⟩
theorem cSo.fm {h h' : List va_E} {I : List kL} {D : kD} (C : cSo h I D) (e4 : h'[4]? = h[4]?) (e : ∀ k, sB k → h'[k]? = h[k]?) : cSo h' I D := by
  obtain ⟨le, z, l⟩ := C
  exact ⟨le, z.fm e, fun q => by obtain ⟨so, fo, s⟩ := l q; exact ⟨so, fo, s.fm e4 e⟩⟩
section KC
variable {X : Nat × (Nat → Int32)} {d : Nat} {h : List va_E} {Q : Option Value → List va_E → Prop} {I : List kL} {nx : Nat} {D : kD}
theorem so_lrn (CI : cI h I nx) (CR : cR h D) (h8 : nbn I I.length ≤ 8) (S : cSo h I D) : rt_ X (d + 20) 73 0 [some (.ref 9), none] [] h (fun v h' => v = none ∧ fr_ sB h h' ∧ ∃ so fo, sL h' I D so fo) := by
  obtain ⟨le, z, l⟩ := S
  by_cases q : le
  · obtain ⟨G0, rg, op, li, so, fo, M, N, R, E, c9, -⟩ := id z
    refine rt_k (k := 1) (pc' := 1) (L' := [some (.ref 9), none]) (st' := [.ref 9]) (h' := h) (fun _ => rfl) ?_
    refine rt_gf rfl c9 rfl rfl ?_
    refine rt_pe rfl (fun z => absurd z ((fun w => w q))) (fun _ => ?_)
    exact rt_r (v := none) rfl rfl (⟨rfl, fr_rf, l q⟩)
  · have e : le = False := eq_false q
    subst e
    exact so_learn CI CR h8 z
theorem so_forget {le : Prop} (S : sZ h le) : rt_ X d 62 0 [some (.ref 9)] [] h (fun v h' => v = none ∧ fr_ sB h h' ∧ sZ h' False) := by
  obtain ⟨G0, rg, op, li, so, fo, M, N, R, E, c9, c10, c11, c12, c13, x⟩ := id S
  refine rt_k (k := 2) (pc' := 2) (L' := [some (.ref 9)]) (st' := [.int (nI 0), .ref 9]) (h' := h) (fun _ => rfl) ?_
  refine rt_pf rfl c9 ⟨rfl, (show 10 < 13 by decide), rfl⟩ ?_
  have f_1 : fr_ (sB) h (h.set 9 (.inr (5, [.ref 4, .ref 6, .ref 10, .ref 11, .int G0, .ref 12, .ref 13, .int rg, .int op, .int li, .int (nI 0), .int so, .int fo]))) := fr_set (e' := .inr (5, [.ref 4, .ref 6, .ref 10, .ref 11, .int G0, .ref 12, .ref 13, .int rg, .int op, .int li, .int (nI 0), .int so, .int fo])) c9 (by rfl) (by first | decide | simp)
  have c_2 := hs_ne (a := 9) (e' := .inr (5, [.ref 4, .ref 6, .ref 10, .ref 11, .int G0, .ref 12, .ref 13, .int rg, .int op, .int li, .int (nI 0), .int so, .int fo])) c10 (by decide)
  have c_3 := hs_ne (a := 9) (e' := .inr (5, [.ref 4, .ref 6, .ref 10, .ref 11, .int G0, .ref 12, .ref 13, .int rg, .int op, .int li, .int (nI 0), .int so, .int fo])) c11 (by decide)
  have c_4 := hs_ne (a := 9) (e' := .inr (5, [.ref 4, .ref 6, .ref 10, .ref 11, .int G0, .ref 12, .ref 13, .int rg, .int op, .int li, .int (nI 0), .int so, .int fo])) c12 (by decide)
  have c_5 := hs_ne (a := 9) (e' := .inr (5, [.ref 4, .ref 6, .ref 10, .ref 11, .int G0, .ref 12, .ref 13, .int rg, .int op, .int li, .int (nI 0), .int so, .int fo])) c13 (by decide)
  have c_6 := hs_self (e' := .inr (5, [.ref 4, .ref 6, .ref 10, .ref 11, .int G0, .ref 12, .ref 13, .int rg, .int op, .int li, .int (nI 0), .int so, .int fo])) c9
  refine rt_r (v := none) rfl rfl ⟨rfl, f_1, G0, rg, op, li, so, fo, M, N, R, E, ?_, c_2, c_3, c_4, c_5, x⟩
  rw [tB_f id]
  exact c_6
/-- a release goes -/
theorem kp_drop (K0 : pk0 h) (CI : cI h I nx) (S : cSo h I D) (w : Int32) : rt_ X (d + 1) 63 0 [some (.ref 0), some (.int w), none] [] h (fun v h' => ((∀ r ∈ I, ¬ nI (lNo r) = w) ∧ v = some (.int (-2)) ∧ h' = h) ∨ (∃ (p : Nat) (r : kL), I[p]? = some r ∧ nI (lNo r) = w ∧ v = some (.int (nI (I.length - 1))) ∧ fr_ (fun z => z = 4 ∨ z = 5 ∨ sB z) h h' ∧ cI h' (I.eraseIdx p) nx ∧ sZ h' False)) := by
  obtain ⟨F0, d4, d5, hn, -, HI⟩ := id CI
  obtain ⟨le, sz, -⟩ := S
  refine rt_k (k := 1) (pc' := 1) (L' := [some (.ref 0), some (.int w), none]) (st' := [.ref 0]) (h' := h) (fun _ => rfl) ?_
  refine rt_gf rfl K0 rfl rfl ?_
  refine rt_k (k := 1) (pc' := 5) (L' := [some (.ref 0), some (.int w), none]) (st' := [.int w, .ref 4]) (h' := h) (fun _ => rfl) ?_
  refine rt_cvH rfl (by decide) d4 rfl rfl rfl rfl (ix_place CI w) ?_
  rintro _ (⟨p, r, hr, hx, rfl⟩ | ⟨hno, rfl⟩)
  ·
    have hp := gt_lt hr
    refine rt_k (k := 2) (pc' := 10) (L' := [some (.ref 0), some (.int w), some (.int (nI p))]) (st' := [.int (nI p)]) (h' := h) (fun _ => rfl) ?_
    refine rt_zge rfl (by omega) ?_
    refine rt_k (k := 1) (pc' := 17) (L' := [some (.ref 0), some (.int w), some (.int (nI p))]) (st' := [.ref 0]) (h' := h) (fun _ => rfl) ?_
    refine rt_gf rfl K0 rfl rfl ?_
    refine rt_k (k := 1) (pc' := 21) (L' := [some (.ref 0), some (.int w), some (.int (nI p))]) (st' := [.int (nI p), .ref 4]) (h' := h) (fun _ => rfl) ?_
    refine rt_cv rfl (by decide) d4 rfl rfl rfl rfl (ix_remove CI hp) ?_
    rintro _ h1 ⟨rfl, f1, C1⟩
    have K1 : pk0 h1 := fr_at f1 (by omega) K0
    have Z1 := sz.fm (fun k hk => f1.2.2 k (by unfold sB at hk; omega))
    obtain ⟨G0, rg, op, li, so, fo, M, N, R, E, e9, -⟩ := id Z1
    refine rt_k (k := 1) (pc' := 25) (L' := [some (.ref 0), some (.int w), some (.int (nI p))]) (st' := [.ref 0]) (h' := h1) (fun _ => rfl) ?_
    refine rt_gf rfl K1 rfl rfl ?_
    refine rt_cv rfl (by decide) e9 rfl rfl rfl rfl (so_forget Z1) ?_
    rintro _ h2 ⟨rfl, f2, Z2⟩
    have K2 : pk0 h2 := fr_at f2 (by unfold sB; omega) K1
    have C2 := C1.fm f2 (by decide) (by decide) sB_zz
    obtain ⟨F2, k4, -⟩ := id C2
    rw [List.length_eraseIdx_of_lt hp] at k4
    refine rt_k (k := 1) (pc' := 32) (L' := [some (.ref 0), some (.int w), some (.int (nI p))]) (st' := [.ref 0]) (h' := h2) (fun _ => rfl) ?_
    refine rt_gf rfl K2 rfl rfl ?_
    refine rt_cvE (v := some (.int (nI (I.length - 1)))) (h' := h2) rfl (by decide) k4 rfl rfl rfl rfl ?_ ?_
    · refine rt_k (k := 1) (pc' := 1) (L' := [some (.ref 4)]) (st' := [.ref 4]) (h' := h2) (fun _ => rfl) ?_
      refine rt_gf rfl k4 rfl rfl ?_
      exact rt_r (v := some (.int (nI (I.length - 1)))) rfl rfl ⟨rfl, rfl⟩
    exact rt_r (v := some (.int (nI (I.length - 1)))) rfl rfl (Or.inr ⟨p, r, hr, hx, rfl, fr_tr (fr_mo f1 (fun k q => by omega)) (fr_mo f2 (fun k q => Or.inr (Or.inr q))), C2, Z2⟩)
  refine rt_k (k := 4) (pc' := 15) (L' := [some (.ref 0), some (.int w), some (.int (-1))]) (st' := [.int (-2)]) (h' := h) (fun _ => rfl) ?_
  exact rt_r (v := some (.int (-2))) rfl rfl (Or.inl ⟨hno, rfl, rfl⟩)
end KC

