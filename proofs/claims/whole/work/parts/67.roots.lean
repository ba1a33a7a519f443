/-! THE ROOTS: at 6, their rows at 7 and 8. PATHS. -/
def cR (h : List va_E) (D : kD) : Prop := ∃ N G, dD h 6 7 8 6 N G D
theorem cR.fr {h h' : List va_E} {D : kD} (C : cR h D) (E : ey_ h h') (h6 : h'[6]? = h[6]?) (h7 : h'[7]? = h[7]?) (h8 : h'[8]? = h[8]?) : cR h' D := by
  obtain ⟨N, G, c1, c2, c3, c4, c5, c6⟩ := C
  exact ⟨N, G, h6.trans c1, h7.trans c2, h8.trans c3, c4, c5, c6.ey E⟩
section RO
variable {X : Nat × (Nat → Int32)} {d : Nat} {h : List va_E} {Q : Option Value → List va_E → Prop}
theorem gt_set {α : Type} {l : List α} {x e : α} {p i : Nat} (h : (l.set p x)[i]? = some e) : (i ≠ p ∧ l[i]? = some e) ∨ (i = p ∧ e = x) := by
  by_cases q : p = i
  · subst q
    have := gt_lt h
    rw [List.length_set] at this
    rw [List.getElem?_set_self this] at h
    cases h
    exact Or.inr ⟨rfl, rfl⟩
  · rw [List.getElem?_set_ne q] at h
    exact Or.inl ⟨fun z => q z.symm, h⟩
theorem roo_put {D : kD} (C : cR h D) {ra : Nat} {w : kW} {R : kR} (hR : zR h ra R) : rt_ X (d + 1) 68 0 [some (.ref 6), some (.long (nmI w)), none, some (.ref ra), none] [] h (fun v h' => (D.length = 6 ∧ (∀ e ∈ D, ¬ nmI e.1 = nmI w) ∧ v = some (.int 0) ∧ h' = h) ∨ (D.length < 6 ∧ (∀ e ∈ D, ¬ nmI e.1 = nmI w) ∧ v = some (.int 1) ∧ fr_ (fun z => z = 6 ∨ z = 7 ∨ z = 8) h h' ∧ cR h' (D ++ [(w, R)])) ∨ (∃ (p : Nat) (e : kW × kR), D[p]? = some e ∧ nmI e.1 = nmI w ∧ v = some (.int 1) ∧ fr_ (fun z => z = 6 ∨ z = 7 ∨ z = 8) h h' ∧ cR h' (D.set p (w, R)))) := by
  obtain ⟨N, G, C⟩ := C
  obtain ⟨c1, c2, c3, hn, hc, HD⟩ := id C
  obtain ⟨tt, sz, F, S, ⟨-, cr⟩, -⟩ := id hR
  refine rt_k (k := 2) (pc' := 2) (L' := [some (.ref 6), some (.long (nmI w)), none, some (.ref ra), none]) (st' := [.long (nmI w), .ref 6]) (h' := h) (fun _ => rfl) ?_
  refine rt_cvH rfl (by decide) c1 rfl rfl rfl rfl (dmd_place C (nmI w)) ?_
  rintro _ (⟨p, e, he, hx, hf, rfl⟩ | ⟨hno, rfl⟩)
  ·
    have hp := gt_lt he
    refine rt_k (k := 2) (pc' := 9) (L' := [some (.ref 6), some (.long (nmI w)), none, some (.ref ra), some (.int (nI p))]) (st' := [.int (nI p)]) (h' := h) (fun _ => rfl) ?_
    refine rt_zge rfl (by omega) ?_
    refine rt_k (k := 1) (pc' := 20) (L' := [some (.ref 6), some (.long (nmI w)), none, some (.ref ra), some (.int (nI p))]) (st' := [.ref 6]) (h' := h) (fun _ => rfl) ?_
    refine rt_gf rfl c1 rfl rfl ?_
    refine rt_k (k := 2) (pc' := 26) (L' := [some (.ref 6), some (.long (nmI w)), none, some (.ref ra), some (.int (nI p))]) (st' := [.ref ra, .int (nI p), .ref 8]) (h' := h) (fun _ => rfl) ?_
    refine rt_aasN rfl c3 cr ⟨rfl, rfl⟩ (by omega) (by decide) ?_
    have f_1 : fr_ (fun z => z = 6 ∨ z = 7 ∨ z = 8) h (h.set 8 (.inl (6, 6, .inr (.inr (.inr (.inr (va_up G p (some ra)))))))) := fr_set (e' := .inl (6, 6, .inr (.inr (.inr (.inr (va_up G p (some ra))))))) c3 (by rfl) (by first | decide | simp)
    have x_2 : ex_ h (h.set 8 (.inl (6, 6, .inr (.inr (.inr (.inr (va_up G p (some ra)))))))) := ex_set (e := .inl (6, 6, .inr (.inr (.inr (.inr (va_up G p (some ra))))))) (by unfold zz; omega)
    have c_3 := hs_ne (a := 8) (e' := .inl (6, 6, .inr (.inr (.inr (.inr (va_up G p (some ra))))))) c1 (by decide)
    have c_4 := hs_ne (a := 8) (e' := .inl (6, 6, .inr (.inr (.inr (.inr (va_up G p (some ra))))))) c2 (by decide)
    have c_5 := hs_ne (a := 8) (e' := .inl (6, 6, .inr (.inr (.inr (.inr (va_up G p (some ra))))))) cr (fun q => by subst q; rw [c3] at cr; cases cr)
    have c_6 := hs_self (e' := .inl (6, 6, .inr (.inr (.inr (.inr (va_up G p (some ra))))))) c3
    refine rt_k (k := 1) (pc' := 28) (L' := [some (.ref 6), some (.long (nmI w)), none, some (.ref ra), some (.int (nI p))]) (st' := [.int (nI 1)]) (h' := (h.set 8 (.inl (6, 6, .inr (.inr (.inr (.inr (va_up G p (some ra))))))))) (fun _ => rfl) ?_
    refine rt_r (v := some (.int (nI 1))) rfl rfl (Or.inr (Or.inr ⟨p, e, he, hx, rfl, f_1, N, va_up G p (some ra), ?_, c_4, c_6, ?_, hc, ?_⟩))
    · rw [List.length_set]; exact c_3
    · rw [List.length_set]; exact hn
    · intro i e' he'
      rcases gt_set he' with ⟨q1, q2⟩ | ⟨q1, q2⟩
      · obtain ⟨u1, rb, u2, u3⟩ := HD i e' q2
        exact ⟨u1, rb, by rw [va_up_ne _ _ q1]; exact u2, u3.ex x_2⟩
      · subst q1; subst q2
        exact ⟨by rw [(HD _ e he).1]; exact hx, ra, va_up_self _ _ _, hR.ex x_2⟩
  refine rt_k (k := 6) (pc' := 15) (L' := [some (.ref 6), some (.long (nmI w)), none, some (.ref ra), some (.int (-1))]) (st' := [.ref ra, .long (nmI w), .ref 6]) (h' := h) (fun _ => rfl) ?_
  refine rt_cv rfl (by decide) c1 rfl rfl rfl rfl (dmd_add C hR) ?_
  rintro _ h1 (⟨q1, rfl, q2⟩ | ⟨q1, rfl, q2, q3, N', G', q4⟩)
  ·
    exact rt_r (v := some (.int 0)) rfl rfl (Or.inl ⟨q1, hno, rfl, q2⟩)
  exact rt_r (v := some (.int 1)) rfl rfl (Or.inr (Or.inl ⟨q1, hno, rfl, q2, N', G', q4⟩))
theorem roo_rem1 {D : kD} {N0 : Nat → Int64} {G0 : Nat → Option Nat} {p : Nat} (hn : D.length ≤ 6) (i : Nat) (h : List va_E) (N : Nat → Int64) (G : Nat → Option Nat) (c6 : h[6]? = some (.inr (4, [.ref 7, .ref 8, .int (nI (D.length - 1))]))) (c7 : h[7]? = some (.inl (1, 6, .inr (.inl N)))) (c8 : h[8]? = some (.inl (6, 6, .inr (.inr (.inr (.inr G)))))) (HD : zDf h N0 G0 D) (hp : p < D.length) (hi : p ≤ i ∧ i ≤ D.length - 1) (g1 : ∀ j, j < p → N j = N0 j ∧ G j = G0 j) (g2 : ∀ j, p ≤ j → j < i → N j = N0 (j + 1) ∧ G j = G0 (j + 1)) (g3 : ∀ j, i ≤ j → N j = N0 j ∧ G j = G0 j)
    (k : ∀ (h' : List va_E) (N' : Nat → Int64) (G' : Nat → Option Nat), fr_ (fun z => z = 6 ∨ z = 7 ∨ z = 8) h h' → h'[6]? = some (.inr (4, [.ref 7, .ref 8, .int (nI (D.length - 1))])) → h'[7]? = some (.inl (1, 6, .inr (.inl N'))) → h'[8]? = some (.inl (6, 6, .inr (.inr (.inr (.inr G'))))) → (∀ j, j < p → N' j = N0 j ∧ G' j = G0 j) → (∀ j, p ≤ j → j < D.length - 1 → N' j = N0 (j + 1) ∧ G' j = G0 (j + 1)) → rt_ X d 71 54 [some (.ref 6), some (.int (nI p)), some (.int (nI (D.length - 1)))] [] h' Q) : rt_ X d 71 12 [some (.ref 6), some (.int (nI p)), some (.int (nI i))] [] h Q := by
  refine rt_k (k := 2) (pc' := 14) (L' := [some (.ref 6), some (.int (nI p)), some (.int (nI i))]) (st' := [.ref 6, .int (nI i)]) (h' := h) (fun _ => rfl) ?_
  refine rt_gf rfl c6 rfl rfl ?_
  refine rt_ige rfl (by omega) (by omega) (fun z => ?_) (fun z => ?_)
  ·
    have e : i = D.length - 1 := by omega
    subst e
    exact k h N G fr_rf c6 c7 c8 g1 g2
  obtain ⟨e, he⟩ := gt_ex (l := D) (i := i + 1) (by omega)
  obtain ⟨u1, ra, u2, u3⟩ := HD _ e he
  obtain ⟨tt, sz, F, S, ⟨-, cr⟩, -⟩ := id u3
  have ga : G (i + 1) = some ra := by rw [(g3 _ (by omega)).2]; exact u2
  refine rt_k (k := 1) (pc' := 21) (L' := [some (.ref 6), some (.int (nI p)), some (.int (nI i))]) (st' := [.ref 6]) (h' := h) (fun _ => rfl) ?_
  refine rt_gf rfl c6 rfl rfl ?_
  refine rt_k (k := 2) (pc' := 26) (L' := [some (.ref 6), some (.int (nI p)), some (.int (nI i))]) (st' := [.ref 6, .int (nI i), .ref 7]) (h' := h) (fun _ => rfl) ?_
  refine rt_gf rfl c6 rfl rfl ?_
  refine rt_k (k := 2) (pc' := 31) (L' := [some (.ref 6), some (.int (nI p)), some (.int (nI i))]) (st' := [.int (nI 1), .int (nI i), .ref 7, .int (nI i), .ref 7]) (h' := h) (fun _ => rfl) ?_
  refine rt_add rfl ?_
  refine rt_lalN rfl c7 rfl (by omega) (by decide) rfl ?_
  refine rt_lasN rfl c7 rfl (by omega) (by decide) ?_
  have f_7 : fr_ (fun z => z = 6 ∨ z = 7 ∨ z = 8) h (h.set 7 (.inl (1, 6, .inr (.inl (vp_updL N i (N (i + 1))))))) := fr_set (e' := .inl (1, 6, .inr (.inl (vp_updL N i (N (i + 1)))))) c7 (by rfl) (by first | decide | simp)
  have x_8 : ex_ h (h.set 7 (.inl (1, 6, .inr (.inl (vp_updL N i (N (i + 1))))))) := ex_set (e := .inl (1, 6, .inr (.inl (vp_updL N i (N (i + 1)))))) (by unfold zz; omega)
  have c_9 := hs_ne (a := 7) (e' := .inl (1, 6, .inr (.inl (vp_updL N i (N (i + 1)))))) c6 (by decide)
  have c_10 := hs_ne (a := 7) (e' := .inl (1, 6, .inr (.inl (vp_updL N i (N (i + 1)))))) c8 (by decide)
  have c_11 := hs_ne (a := 7) (e' := .inl (1, 6, .inr (.inl (vp_updL N i (N (i + 1)))))) cr (fun q => by subst q; rw [c7] at cr; cases cr)
  have c_12 := hs_self (e' := .inl (1, 6, .inr (.inl (vp_updL N i (N (i + 1)))))) c7
  refine rt_k (k := 1) (pc' := 35) (L' := [some (.ref 6), some (.int (nI p)), some (.int (nI i))]) (st' := [.ref 6]) (h' := (h.set 7 (.inl (1, 6, .inr (.inl (vp_updL N i (N (i + 1)))))))) (fun _ => rfl) ?_
  refine rt_gf rfl c_9 rfl rfl ?_
  refine rt_k (k := 2) (pc' := 40) (L' := [some (.ref 6), some (.int (nI p)), some (.int (nI i))]) (st' := [.ref 6, .int (nI i), .ref 8]) (h' := (h.set 7 (.inl (1, 6, .inr (.inl (vp_updL N i (N (i + 1)))))))) (fun _ => rfl) ?_
  refine rt_gf rfl c_9 rfl rfl ?_
  refine rt_k (k := 2) (pc' := 45) (L' := [some (.ref 6), some (.int (nI p)), some (.int (nI i))]) (st' := [.int (nI 1), .int (nI i), .ref 8, .int (nI i), .ref 8]) (h' := (h.set 7 (.inl (1, 6, .inr (.inl (vp_updL N i (N (i + 1)))))))) (fun _ => rfl) ?_
  refine rt_add rfl ?_
  refine rt_aalN rfl c_10 rfl (by omega) (by decide) ga ?_
  refine rt_aasN rfl c_10 c_11 ⟨rfl, rfl⟩ (by omega) (by decide) ?_
  have f_13 : fr_ (fun z => z = 6 ∨ z = 7 ∨ z = 8) h ((h.set 7 (.inl (1, 6, .inr (.inl (vp_updL N i (N (i + 1))))))).set 8 (.inl (6, 6, .inr (.inr (.inr (.inr (va_up G i (some ra)))))))) := fr_tr f_7 (fr_set (e' := .inl (6, 6, .inr (.inr (.inr (.inr (va_up G i (some ra))))))) c_10 (by rfl) (by first | decide | simp))
  have x_14 : ex_ h ((h.set 7 (.inl (1, 6, .inr (.inl (vp_updL N i (N (i + 1))))))).set 8 (.inl (6, 6, .inr (.inr (.inr (.inr (va_up G i (some ra)))))))) := ex_tr x_8 (ex_set (e := .inl (6, 6, .inr (.inr (.inr (.inr (va_up G i (some ra))))))) (by unfold zz; omega))
  have c_15 := hs_ne (a := 8) (e' := .inl (6, 6, .inr (.inr (.inr (.inr (va_up G i (some ra))))))) c_9 (by decide)
  have c_16 := hs_ne (a := 8) (e' := .inl (6, 6, .inr (.inr (.inr (.inr (va_up G i (some ra))))))) c_12 (by decide)
  have c_17 := hs_ne (a := 8) (e' := .inl (6, 6, .inr (.inr (.inr (.inr (va_up G i (some ra))))))) c_11 (fun q => by subst q; rw [c8] at cr; cases cr)
  have c_18 := hs_self (e' := .inl (6, 6, .inr (.inr (.inr (.inr (va_up G i (some ra))))))) c_10
  refine rt_inc (c := 1) rfl rfl ?_
  refine rt_k (k := 1) (pc' := 12) (L' := [some (.ref 6), some (.int (nI p)), some (.int (nI (i + 1)))]) (st' := []) (h' := ((h.set 7 (.inl (1, 6, .inr (.inl (vp_updL N i (N (i + 1))))))).set 8 (.inl (6, 6, .inr (.inr (.inr (.inr (va_up G i (some ra))))))))) (fun _ => rfl) ?_
  refine roo_rem1 hn (i + 1) _ _ _ c_15 c_16 c_18 (HD.ex x_14) hp ⟨by omega, by omega⟩ (fun j hj => ?_) (fun j h1 h2 => ?_) (fun j hj => ?_) (fun h' N' G' f1 => k h' N' G' (fr_tr f_13 f1))
  · rw [va_up_ne _ _ (by omega)]; unfold vp_updL; rw [if_neg (by omega)]; exact g1 j hj
  · by_cases q : j = i
    · subst q; rw [va_up_self]; unfold vp_updL; rw [if_pos rfl]; exact ⟨(g3 _ (by omega)).1, u2.symm⟩
    · rw [va_up_ne _ _ (by omega)]; unfold vp_updL; rw [if_neg (by omega)]; exact g2 j h1 (by omega)
  · rw [va_up_ne _ _ (by omega)]; unfold vp_updL; rw [if_neg (by omega)]; exact g3 j (by omega)
termination_by D.length - i
theorem roo_remove {D : kD} (C : cR h D) {p : Nat} (hp : p < D.length) : rt_ X d 71 0 [some (.ref 6), some (.int (nI p)), none] [] h (fun v h' => v = none ∧ fr_ (fun z => z = 6 ∨ z = 7 ∨ z = 8) h h' ∧ cR h' (D.eraseIdx p)) := by
  obtain ⟨N, G, c6, c7, c8, hn, hc, HD⟩ := id C
  refine rt_k (k := 2) (pc' := 2) (L' := [some (.ref 6), some (.int (nI p)), none]) (st' := [.ref 6, .ref 6]) (h' := h) (fun _ => rfl) ?_
  refine rt_gf rfl c6 rfl rfl ?_
  refine rt_k (k := 1) (pc' := 6) (L' := [some (.ref 6), some (.int (nI p)), none]) (st' := [.int (nI 1), .int (nI D.length), .ref 6]) (h' := h) (fun _ => rfl) ?_
  refine rt_sub rfl (by omega) ?_
  refine rt_pf rfl c6 ⟨rfl, (show 2 < 3 by decide), rfl⟩ ?_
  have f_19 : fr_ (fun z => z = 6 ∨ z = 7 ∨ z = 8) h (h.set 6 (.inr (4, [.ref 7, .ref 8, .int (nI (D.length - 1))]))) := fr_set (e' := .inr (4, [.ref 7, .ref 8, .int (nI (D.length - 1))])) c6 (by rfl) (by first | decide | simp)
  have x_20 : ex_ h (h.set 6 (.inr (4, [.ref 7, .ref 8, .int (nI (D.length - 1))]))) := ex_set (e := .inr (4, [.ref 7, .ref 8, .int (nI (D.length - 1))])) (by unfold zz; omega)
  have c_21 := hs_ne (a := 6) (e' := .inr (4, [.ref 7, .ref 8, .int (nI (D.length - 1))])) c7 (by decide)
  have c_22 := hs_ne (a := 6) (e' := .inr (4, [.ref 7, .ref 8, .int (nI (D.length - 1))])) c8 (by decide)
  have c_23 := hs_self (e' := .inr (4, [.ref 7, .ref 8, .int (nI (D.length - 1))])) c6
  refine rt_k (k := 2) (pc' := 12) (L' := [some (.ref 6), some (.int (nI p)), some (.int (nI p))]) (st' := []) (h' := (h.set 6 (.inr (4, [.ref 7, .ref 8, .int (nI (D.length - 1))])))) (fun _ => rfl) ?_
  refine roo_rem1 (N0 := N) (G0 := G) hn p _ _ _ c_23 c_21 c_22 (HD.ex x_20) hp ⟨by omega, by omega⟩ (fun _ _ => ⟨rfl, rfl⟩) (fun j h1 h2 => by omega) (fun _ _ => ⟨rfl, rfl⟩) ?_
  intro h1 N1 G1 f1 c6' c7' c8' g1 g2
  have HD' := (HD.ex x_20).ex (fr_ex f1 (by unfold zz; omega))
  have fr1 := fr_tr f_19 f1
  refine rt_k (k := 1) (pc' := 55) (L' := [some (.ref 6), some (.int (nI p)), some (.int (nI (D.length - 1)))]) (st' := [.ref 6]) (h' := h1) (fun _ => rfl) ?_
  refine rt_gf rfl c6' rfl rfl ?_
  refine rt_k (k := 1) (pc' := 59) (L' := [some (.ref 6), some (.int (nI p)), some (.int (nI (D.length - 1)))]) (st' := [.ref 6, .ref 8]) (h' := h1) (fun _ => rfl) ?_
  refine rt_gf rfl c6' rfl rfl ?_
  refine rt_k (k := 1) (pc' := 63) (L' := [some (.ref 6), some (.int (nI p)), some (.int (nI (D.length - 1)))]) (st' := [.null, .int (nI (D.length - 1)), .ref 8]) (h' := h1) (fun _ => rfl) ?_
  refine rt_aaO rfl c8' rfl (by omega) (by decide) ?_
  have f_24 : fr_ (fun z => z = 6 ∨ z = 7 ∨ z = 8) h1 (h1.set 8 (.inl (6, 6, .inr (.inr (.inr (.inr (va_up G1 (D.length - 1) none))))))) := fr_set (e' := .inl (6, 6, .inr (.inr (.inr (.inr (va_up G1 (D.length - 1) none)))))) c8' (by rfl) (by first | decide | simp)
  have x_25 : ex_ h1 (h1.set 8 (.inl (6, 6, .inr (.inr (.inr (.inr (va_up G1 (D.length - 1) none))))))) := ex_set (e := .inl (6, 6, .inr (.inr (.inr (.inr (va_up G1 (D.length - 1) none)))))) (by unfold zz; omega)
  have c_26 := hs_ne (a := 8) (e' := .inl (6, 6, .inr (.inr (.inr (.inr (va_up G1 (D.length - 1) none)))))) c6' (by decide)
  have c_27 := hs_ne (a := 8) (e' := .inl (6, 6, .inr (.inr (.inr (.inr (va_up G1 (D.length - 1) none)))))) c7' (by decide)
  have c_28 := hs_self (e' := .inl (6, 6, .inr (.inr (.inr (.inr (va_up G1 (D.length - 1) none)))))) c8'
  refine rt_r (v := none) rfl rfl ⟨rfl, fr_tr fr1 f_24, N1, va_up G1 (D.length - 1) none, ?_, c_27, c_28, ?_, hc, ?_⟩
  · rw [List.length_eraseIdx_of_lt hp]; exact c_26
  · rw [List.length_eraseIdx_of_lt hp]; omega
  · intro i e he
    have hi := gt_lt he
    rw [List.length_eraseIdx_of_lt hp] at hi
    rcases gt_era he with ⟨q1, q2⟩ | ⟨q1, q2⟩
    · obtain ⟨u1, ra, u2, u3⟩ := HD' i e q2
      exact ⟨by rw [(g1 _ q1).1]; exact u1, ra, by rw [va_up_ne _ _ (by omega), (g1 _ q1).2]; exact u2, u3.ex x_25⟩
    · obtain ⟨u1, ra, u2, u3⟩ := HD' _ e q2
      exact ⟨by rw [(g2 _ q1 hi).1]; exact u1, ra, by rw [va_up_ne _ _ (by omega), (g2 _ q1 hi).2]; exact u2, u3.ex x_25⟩
end RO

