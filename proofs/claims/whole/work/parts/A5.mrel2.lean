/-! THE REFERENCE, 16: what a release in the making takes in. -/
section MQ
variable {X : Nat × (Nat → Int32)} {d : Nat} {h : List va_E} {Q : Option Value → List va_E → Prop} {o : Nat → Int32} {ws : List kW} {tl : Int32} {l a nd nr bk br ow : Nat} {r : kL}
abbrev yAd (a nd nr bk br ow l : Nat) : Prop := 36 < a ∧ a < nd ∧ nd < nr ∧ nr < bk ∧ bk < br ∧ br < ow ∧ ow < l
theorem yDf_sn {NF RF : Nat → Option Nat} {D : kD} {n : kW} {R : kR} {nb ra : Nat} (C : yDf l h NF RF D) (S : sS h nb n) (Y : yR l h ra R) : yDf l h (va_up NF D.length (some nb)) (va_up RF D.length (some ra)) (D ++ [(n, R)]) := fun i e he => by
  rcases gt_snoc he with q | ⟨q, e9⟩
  · obtain ⟨⟨b, x, y⟩, ra, z, w⟩ := C i e q
    have := gt_lt q
    unfold va_up
    rw [if_neg (by omega), if_neg (by omega)]
    exact ⟨⟨b, x, y⟩, ra, z, w⟩
  · unfold va_up
    rw [if_pos q, if_pos q, e9]
    exact ⟨⟨nb, rfl, S⟩, ra, rfl, Y⟩
theorem mq_n {x2 : Value} {x3 : Int32} {nb ra : Nat} {n : kW} {R : kR} (hz : yAd a nd nr bk br ow l) (Y : yQ l h a nd nr bk br ow r) (S : sS h nb n) (B : yR l h ra R) (hn : (lNe r).length < 6) (k : ∀ h', fr_ (fun z => z = a ∨ z = nd ∨ z = nr) h h' → eW (okL l) h h' → yQ l h' a nd nr bk br ow (lNo r, lNm r, lVe r, lNe r ++ [(n, R)], lBr r, lOw r) → rt_ X d 131 319 [some (.ref 23), some (.ref a), some x2, some (.int x3), some (.ref nb), some (.ref ra)] [] h' Q) : rt_ X d 131 252 [some (.ref 23), some (.ref a), some x2, some (.int x3), some (.ref nb), some (.ref ra)] [] h Q := by
  obtain ⟨nm, ve, NF, RF, BF, QF, OF, ⟨q1, q2, q3, q4, q5, q6⟩, a2, a3, a4, a5, a6, a7⟩ := id Y
  obtain ⟨sv, sx, sy, sc, -, -⟩ := S.at
  obtain ⟨sg, ve', ts, S', F', N', ⟨-, rc⟩, -⟩ := id B
  refine rt_k (k := 1) (pc' := 253) (L' := [some (.ref 23), some (.ref a), some (x2), some (.int x3), some (.ref nb), some (.ref ra)]) (st' := [.ref a]) (h' := h) (fun _ => rfl) ?_
  refine rt_gf rfl q1 rfl rfl ?_
  refine rt_k (k := 1) (pc' := 257) (L' := [some (.ref 23), some (.ref a), some (x2), some (.int x3), some (.ref nb), some (.ref ra)]) (st' := [.ref a, .ref nd]) (h' := h) (fun _ => rfl) ?_
  refine rt_gf rfl q1 rfl rfl ?_
  refine rt_k (k := 1) (pc' := 262) (L' := [some (.ref 23), some (.ref a), some (x2), some (.int x3), some (.ref nb), some (.ref ra)]) (st' := [.ref nb, .int (nI ((lNe r).length)), .ref nd]) (h' := h) (fun _ => rfl) ?_
  refine rt_aasN rfl q2 sc ⟨rfl, rfl⟩ (by omega) (by decide) ?_
  refine rt_nm (fun h_1 e_2 => ?_)
  have f_3 : fr_ (fun z => z = a ∨ z = nd ∨ z = nr) h h_1 := by rw [e_2]; exact fr_set (e' := .inl (9, 6, .inr (.inr (.inr (.inr (va_up NF ((lNe r).length) (some nb))))))) q2 (by rfl) (by first | decide | simp)
  have n_4 : h_1.length = h.length := by rw [e_2]; simp
  have c_5 : h_1[a]? = some (.inr (14, [.int (nI (lNo r)), .ref nm, .ref ve, .ref nd, .ref nr, .int (nI ((lNe r).length)), .ref bk, .ref br, .int (nI ((lBr r).length)), .ref ow, .int (nI ((lOw r).length))])) := by rw [e_2]; exact hs_ne q1 (hc_ne q2 q1 (by intro q; cases q))
  have c_6 : h_1[nd]? = some (.inl (9, 6, .inr (.inr (.inr (.inr (va_up NF ((lNe r).length) (some nb))))))) := by rw [e_2]; exact hs_self q2
  have c_7 : h_1[nr]? = some (.inl (11, 6, .inr (.inr (.inr (.inr RF))))) := by rw [e_2]; exact hs_ne q3 (hc_ne q2 q3 (by intro q; cases q))
  have c_8 : h_1[bk]? = some (.inl (9, 3, .inr (.inr (.inr (.inr BF))))) := by rw [e_2]; exact hs_ne q4 (by omega)
  have c_9 : h_1[br]? = some (.inl (11, 3, .inr (.inr (.inr (.inr QF))))) := by rw [e_2]; exact hs_ne q5 (hc_ne q2 q5 (by intro q; cases q))
  have c_10 : h_1[ow]? = some (.inl (9, 4, .inr (.inr (.inr (.inr OF))))) := by rw [e_2]; exact hs_ne q6 (by omega)
  have c_11 : h_1[nb]? = some (.inr (17, [.ref sv, .int (nI 0), .int sx, .int sy])) := by rw [e_2]; exact hs_ne sc (hc_ne q2 sc (by intro q; cases q))
  have c_12 : h_1[ra]? = some (.inr (16, [.ref sg, .ref ve', .ref ts, .int (nI R.length)])) := by rw [e_2]; exact hs_ne rc (hc_ne q2 rc (by intro q; cases q))
  refine rt_k (k := 1) (pc' := 264) (L' := [some (.ref 23), some (.ref a), some (x2), some (.int x3), some (.ref nb), some (.ref ra)]) (st' := [.ref a]) (h' := h_1) (fun _ => rfl) ?_
  refine rt_gf rfl c_5 rfl rfl ?_
  refine rt_k (k := 1) (pc' := 268) (L' := [some (.ref 23), some (.ref a), some (x2), some (.int x3), some (.ref nb), some (.ref ra)]) (st' := [.ref a, .ref nr]) (h' := h_1) (fun _ => rfl) ?_
  refine rt_gf rfl c_5 rfl rfl ?_
  refine rt_k (k := 1) (pc' := 273) (L' := [some (.ref 23), some (.ref a), some (x2), some (.int x3), some (.ref nb), some (.ref ra)]) (st' := [.ref ra, .int (nI ((lNe r).length)), .ref nr]) (h' := h_1) (fun _ => rfl) ?_
  refine rt_aasN rfl c_7 c_12 ⟨rfl, rfl⟩ (by omega) (by decide) ?_
  refine rt_nm (fun h_13 e_14 => ?_)
  have f_15 : fr_ (fun z => z = a ∨ z = nd ∨ z = nr) h h_13 := by rw [e_14]; exact fr_tr f_3 (fr_set (e' := .inl (11, 6, .inr (.inr (.inr (.inr (va_up RF ((lNe r).length) (some ra))))))) c_7 (by rfl) (by first | decide | simp))
  have n_16 : h_13.length = h_1.length := by rw [e_14]; simp
  have c_17 : h_13[a]? = some (.inr (14, [.int (nI (lNo r)), .ref nm, .ref ve, .ref nd, .ref nr, .int (nI ((lNe r).length)), .ref bk, .ref br, .int (nI ((lBr r).length)), .ref ow, .int (nI ((lOw r).length))])) := by rw [e_14]; exact hs_ne c_5 (hc_ne c_7 c_5 (by intro q; cases q))
  have c_18 : h_13[nd]? = some (.inl (9, 6, .inr (.inr (.inr (.inr (va_up NF ((lNe r).length) (some nb))))))) := by rw [e_14]; exact hs_ne c_6 (hc_ne c_7 c_6 (by intro q; cases q))
  have c_19 : h_13[nr]? = some (.inl (11, 6, .inr (.inr (.inr (.inr (va_up RF ((lNe r).length) (some ra))))))) := by rw [e_14]; exact hs_self c_7
  have c_20 : h_13[bk]? = some (.inl (9, 3, .inr (.inr (.inr (.inr BF))))) := by rw [e_14]; exact hs_ne c_8 (hc_ne c_7 c_8 (by intro q; cases q))
  have c_21 : h_13[br]? = some (.inl (11, 3, .inr (.inr (.inr (.inr QF))))) := by rw [e_14]; exact hs_ne c_9 (by omega)
  have c_22 : h_13[ow]? = some (.inl (9, 4, .inr (.inr (.inr (.inr OF))))) := by rw [e_14]; exact hs_ne c_10 (hc_ne c_7 c_10 (by intro q; cases q))
  have c_23 : h_13[nb]? = some (.inr (17, [.ref sv, .int (nI 0), .int sx, .int sy])) := by rw [e_14]; exact hs_ne c_11 (hc_ne c_7 c_11 (by intro q; cases q))
  have c_24 : h_13[ra]? = some (.inr (16, [.ref sg, .ref ve', .ref ts, .int (nI R.length)])) := by rw [e_14]; exact hs_ne c_12 (hc_ne c_7 c_12 (by intro q; cases q))
  refine rt_k (k := 2) (pc' := 276) (L' := [some (.ref 23), some (.ref a), some (x2), some (.int x3), some (.ref nb), some (.ref ra)]) (st' := [.ref a, .ref a]) (h' := h_13) (fun _ => rfl) ?_
  refine rt_gf rfl c_17 rfl rfl ?_
  refine rt_k (k := 1) (pc' := 280) (L' := [some (.ref 23), some (.ref a), some (x2), some (.int x3), some (.ref nb), some (.ref ra)]) (st' := [.int (nI 1), .int (nI ((lNe r).length)), .ref a]) (h' := h_13) (fun _ => rfl) ?_
  refine rt_add rfl ?_
  refine rt_pf rfl c_17 ⟨rfl, (show 5 < 11 by decide), rfl⟩ ?_
  refine rt_nm (fun h_25 e_26 => ?_)
  have f_27 : fr_ (fun z => z = a ∨ z = nd ∨ z = nr) h h_25 := by rw [e_26]; exact fr_tr f_15 (fr_set (e' := .inr (14, [.int (nI (lNo r)), .ref nm, .ref ve, .ref nd, .ref nr, .int (nI (((lNe r).length) + 1)), .ref bk, .ref br, .int (nI ((lBr r).length)), .ref ow, .int (nI ((lOw r).length))])) c_17 (by rfl) (by first | decide | simp))
  have n_28 : h_25.length = h_13.length := by rw [e_26]; simp
  have c_29 : h_25[a]? = some (.inr (14, [.int (nI (lNo r)), .ref nm, .ref ve, .ref nd, .ref nr, .int (nI (((lNe r).length) + 1)), .ref bk, .ref br, .int (nI ((lBr r).length)), .ref ow, .int (nI ((lOw r).length))])) := by rw [e_26]; exact hs_self c_17
  have c_30 : h_25[nd]? = some (.inl (9, 6, .inr (.inr (.inr (.inr (va_up NF ((lNe r).length) (some nb))))))) := by rw [e_26]; exact hs_ne c_18 (hc_ne c_17 c_18 (by intro q; cases q))
  have c_31 : h_25[nr]? = some (.inl (11, 6, .inr (.inr (.inr (.inr (va_up RF ((lNe r).length) (some ra))))))) := by rw [e_26]; exact hs_ne c_19 (hc_ne c_17 c_19 (by intro q; cases q))
  have c_32 : h_25[bk]? = some (.inl (9, 3, .inr (.inr (.inr (.inr BF))))) := by rw [e_26]; exact hs_ne c_20 (hc_ne c_17 c_20 (by intro q; cases q))
  have c_33 : h_25[br]? = some (.inl (11, 3, .inr (.inr (.inr (.inr QF))))) := by rw [e_26]; exact hs_ne c_21 (hc_ne c_17 c_21 (by intro q; cases q))
  have c_34 : h_25[ow]? = some (.inl (9, 4, .inr (.inr (.inr (.inr OF))))) := by rw [e_26]; exact hs_ne c_22 (hc_ne c_17 c_22 (by intro q; cases q))
  have c_35 : h_25[nb]? = some (.inr (17, [.ref sv, .int (nI 0), .int sx, .int sy])) := by rw [e_26]; exact hs_ne c_23 (hc_ne c_17 c_23 (by intro q; cases q))
  have c_36 : h_25[ra]? = some (.inr (16, [.ref sg, .ref ve', .ref ts, .int (nI R.length)])) := by rw [e_26]; exact hs_ne c_24 (hc_ne c_17 c_24 (by intro q; cases q))
  refine rt_k (k := 1) (pc' := 319) (L' := [some (.ref 23), some (.ref a), some (x2), some (.int x3), some (.ref nb), some (.ref ra)]) (st' := []) (h' := h_25) (fun _ => rfl) ?_
  have FF := f_27
  have E : eW (okL l) h h_25 := ew_yq FF ⟨q1, q2, q3, q4, q5, q6⟩ hz.2.2.2.2.2.2 (fun k hk => by
    rcases hk with e | e | e <;> rw [e] <;> simp)
  have el : (lNe r ++ [(n, R)]).length = (lNe r).length + 1 := by rw [List.length_append]; rfl
  refine k _ FF E ⟨nm, ve, va_up NF (lNe r).length (some nb), va_up RF (lNe r).length (some ra), BF, QF, OF, ⟨?_, c_30, c_31, c_32, c_33, c_34⟩, ⟨by show (lNe r ++ [(n, R)]).length ≤ 6; rw [el]; omega, a2.2⟩, a3.ew (E.mo okV_L), a4.ew (E.mo okV_L), yDf_sn (a5.ew E) (S.ew (E.mo okV_L)) (B.ew E), a6.ew E, a7.ew E⟩
  have c9 := c_29
  rw [← el] at c9
  exact c9
theorem mq_b {x2 : Value} {x3 : Int32} {nb ra : Nat} {n : kW} {R : kR} (hz : yAd a nd nr bk br ow l) (Y : yQ l h a nd nr bk br ow r) (S : sS h nb n) (B : yR l h ra R) (hn : (lBr r).length < 3) (k : ∀ h', fr_ (fun z => z = a ∨ z = bk ∨ z = br) h h' → eW (okL l) h h' → yQ l h' a nd nr bk br ow (lNo r, lNm r, lVe r, lNe r, lBr r ++ [(n, R)], lOw r) → rt_ X d 131 319 [some (.ref 23), some (.ref a), some x2, some (.int x3), some (.ref nb), some (.ref ra)] [] h' Q) : rt_ X d 131 287 [some (.ref 23), some (.ref a), some x2, some (.int x3), some (.ref nb), some (.ref ra)] [] h Q := by
  obtain ⟨nm, ve, NF, RF, BF, QF, OF, ⟨q1, q2, q3, q4, q5, q6⟩, a2, a3, a4, a5, a6, a7⟩ := id Y
  obtain ⟨sv, sx, sy, sc, -, -⟩ := S.at
  obtain ⟨sg, ve', ts, S', F', N', ⟨-, rc⟩, -⟩ := id B
  refine rt_k (k := 1) (pc' := 288) (L' := [some (.ref 23), some (.ref a), some (x2), some (.int x3), some (.ref nb), some (.ref ra)]) (st' := [.ref a]) (h' := h) (fun _ => rfl) ?_
  refine rt_gf rfl q1 rfl rfl ?_
  refine rt_k (k := 1) (pc' := 292) (L' := [some (.ref 23), some (.ref a), some (x2), some (.int x3), some (.ref nb), some (.ref ra)]) (st' := [.ref a, .ref bk]) (h' := h) (fun _ => rfl) ?_
  refine rt_gf rfl q1 rfl rfl ?_
  refine rt_k (k := 1) (pc' := 297) (L' := [some (.ref 23), some (.ref a), some (x2), some (.int x3), some (.ref nb), some (.ref ra)]) (st' := [.ref nb, .int (nI ((lBr r).length)), .ref bk]) (h' := h) (fun _ => rfl) ?_
  refine rt_aasN rfl q4 sc ⟨rfl, rfl⟩ (by omega) (by decide) ?_
  refine rt_nm (fun h_37 e_38 => ?_)
  have f_39 : fr_ (fun z => z = a ∨ z = bk ∨ z = br) h h_37 := by rw [e_38]; exact fr_set (e' := .inl (9, 3, .inr (.inr (.inr (.inr (va_up BF ((lBr r).length) (some nb))))))) q4 (by rfl) (by first | decide | simp)
  have n_40 : h_37.length = h.length := by rw [e_38]; simp
  have c_41 : h_37[a]? = some (.inr (14, [.int (nI (lNo r)), .ref nm, .ref ve, .ref nd, .ref nr, .int (nI ((lNe r).length)), .ref bk, .ref br, .int (nI ((lBr r).length)), .ref ow, .int (nI ((lOw r).length))])) := by rw [e_38]; exact hs_ne q1 (hc_ne q4 q1 (by intro q; cases q))
  have c_42 : h_37[nd]? = some (.inl (9, 6, .inr (.inr (.inr (.inr NF))))) := by rw [e_38]; exact hs_ne q2 (by omega)
  have c_43 : h_37[nr]? = some (.inl (11, 6, .inr (.inr (.inr (.inr RF))))) := by rw [e_38]; exact hs_ne q3 (hc_ne q4 q3 (by intro q; cases q))
  have c_44 : h_37[bk]? = some (.inl (9, 3, .inr (.inr (.inr (.inr (va_up BF ((lBr r).length) (some nb))))))) := by rw [e_38]; exact hs_self q4
  have c_45 : h_37[br]? = some (.inl (11, 3, .inr (.inr (.inr (.inr QF))))) := by rw [e_38]; exact hs_ne q5 (hc_ne q4 q5 (by intro q; cases q))
  have c_46 : h_37[ow]? = some (.inl (9, 4, .inr (.inr (.inr (.inr OF))))) := by rw [e_38]; exact hs_ne q6 (by omega)
  have c_47 : h_37[nb]? = some (.inr (17, [.ref sv, .int (nI 0), .int sx, .int sy])) := by rw [e_38]; exact hs_ne sc (hc_ne q4 sc (by intro q; cases q))
  have c_48 : h_37[ra]? = some (.inr (16, [.ref sg, .ref ve', .ref ts, .int (nI R.length)])) := by rw [e_38]; exact hs_ne rc (hc_ne q4 rc (by intro q; cases q))
  refine rt_k (k := 1) (pc' := 299) (L' := [some (.ref 23), some (.ref a), some (x2), some (.int x3), some (.ref nb), some (.ref ra)]) (st' := [.ref a]) (h' := h_37) (fun _ => rfl) ?_
  refine rt_gf rfl c_41 rfl rfl ?_
  refine rt_k (k := 1) (pc' := 303) (L' := [some (.ref 23), some (.ref a), some (x2), some (.int x3), some (.ref nb), some (.ref ra)]) (st' := [.ref a, .ref br]) (h' := h_37) (fun _ => rfl) ?_
  refine rt_gf rfl c_41 rfl rfl ?_
  refine rt_k (k := 1) (pc' := 308) (L' := [some (.ref 23), some (.ref a), some (x2), some (.int x3), some (.ref nb), some (.ref ra)]) (st' := [.ref ra, .int (nI ((lBr r).length)), .ref br]) (h' := h_37) (fun _ => rfl) ?_
  refine rt_aasN rfl c_45 c_48 ⟨rfl, rfl⟩ (by omega) (by decide) ?_
  refine rt_nm (fun h_49 e_50 => ?_)
  have f_51 : fr_ (fun z => z = a ∨ z = bk ∨ z = br) h h_49 := by rw [e_50]; exact fr_tr f_39 (fr_set (e' := .inl (11, 3, .inr (.inr (.inr (.inr (va_up QF ((lBr r).length) (some ra))))))) c_45 (by rfl) (by first | decide | simp))
  have n_52 : h_49.length = h_37.length := by rw [e_50]; simp
  have c_53 : h_49[a]? = some (.inr (14, [.int (nI (lNo r)), .ref nm, .ref ve, .ref nd, .ref nr, .int (nI ((lNe r).length)), .ref bk, .ref br, .int (nI ((lBr r).length)), .ref ow, .int (nI ((lOw r).length))])) := by rw [e_50]; exact hs_ne c_41 (hc_ne c_45 c_41 (by intro q; cases q))
  have c_54 : h_49[nd]? = some (.inl (9, 6, .inr (.inr (.inr (.inr NF))))) := by rw [e_50]; exact hs_ne c_42 (hc_ne c_45 c_42 (by intro q; cases q))
  have c_55 : h_49[nr]? = some (.inl (11, 6, .inr (.inr (.inr (.inr RF))))) := by rw [e_50]; exact hs_ne c_43 (by omega)
  have c_56 : h_49[bk]? = some (.inl (9, 3, .inr (.inr (.inr (.inr (va_up BF ((lBr r).length) (some nb))))))) := by rw [e_50]; exact hs_ne c_44 (hc_ne c_45 c_44 (by intro q; cases q))
  have c_57 : h_49[br]? = some (.inl (11, 3, .inr (.inr (.inr (.inr (va_up QF ((lBr r).length) (some ra))))))) := by rw [e_50]; exact hs_self c_45
  have c_58 : h_49[ow]? = some (.inl (9, 4, .inr (.inr (.inr (.inr OF))))) := by rw [e_50]; exact hs_ne c_46 (hc_ne c_45 c_46 (by intro q; cases q))
  have c_59 : h_49[nb]? = some (.inr (17, [.ref sv, .int (nI 0), .int sx, .int sy])) := by rw [e_50]; exact hs_ne c_47 (hc_ne c_45 c_47 (by intro q; cases q))
  have c_60 : h_49[ra]? = some (.inr (16, [.ref sg, .ref ve', .ref ts, .int (nI R.length)])) := by rw [e_50]; exact hs_ne c_48 (hc_ne c_45 c_48 (by intro q; cases q))
  refine rt_k (k := 2) (pc' := 311) (L' := [some (.ref 23), some (.ref a), some (x2), some (.int x3), some (.ref nb), some (.ref ra)]) (st' := [.ref a, .ref a]) (h' := h_49) (fun _ => rfl) ?_
  refine rt_gf rfl c_53 rfl rfl ?_
  refine rt_k (k := 1) (pc' := 315) (L' := [some (.ref 23), some (.ref a), some (x2), some (.int x3), some (.ref nb), some (.ref ra)]) (st' := [.int (nI 1), .int (nI ((lBr r).length)), .ref a]) (h' := h_49) (fun _ => rfl) ?_
  refine rt_add rfl ?_
  refine rt_pf rfl c_53 ⟨rfl, (show 8 < 11 by decide), rfl⟩ ?_
  refine rt_nm (fun h_61 e_62 => ?_)
  have f_63 : fr_ (fun z => z = a ∨ z = bk ∨ z = br) h h_61 := by rw [e_62]; exact fr_tr f_51 (fr_set (e' := .inr (14, [.int (nI (lNo r)), .ref nm, .ref ve, .ref nd, .ref nr, .int (nI ((lNe r).length)), .ref bk, .ref br, .int (nI (((lBr r).length) + 1)), .ref ow, .int (nI ((lOw r).length))])) c_53 (by rfl) (by first | decide | simp))
  have n_64 : h_61.length = h_49.length := by rw [e_62]; simp
  have c_65 : h_61[a]? = some (.inr (14, [.int (nI (lNo r)), .ref nm, .ref ve, .ref nd, .ref nr, .int (nI ((lNe r).length)), .ref bk, .ref br, .int (nI (((lBr r).length) + 1)), .ref ow, .int (nI ((lOw r).length))])) := by rw [e_62]; exact hs_self c_53
  have c_66 : h_61[nd]? = some (.inl (9, 6, .inr (.inr (.inr (.inr NF))))) := by rw [e_62]; exact hs_ne c_54 (hc_ne c_53 c_54 (by intro q; cases q))
  have c_67 : h_61[nr]? = some (.inl (11, 6, .inr (.inr (.inr (.inr RF))))) := by rw [e_62]; exact hs_ne c_55 (hc_ne c_53 c_55 (by intro q; cases q))
  have c_68 : h_61[bk]? = some (.inl (9, 3, .inr (.inr (.inr (.inr (va_up BF ((lBr r).length) (some nb))))))) := by rw [e_62]; exact hs_ne c_56 (hc_ne c_53 c_56 (by intro q; cases q))
  have c_69 : h_61[br]? = some (.inl (11, 3, .inr (.inr (.inr (.inr (va_up QF ((lBr r).length) (some ra))))))) := by rw [e_62]; exact hs_ne c_57 (hc_ne c_53 c_57 (by intro q; cases q))
  have c_70 : h_61[ow]? = some (.inl (9, 4, .inr (.inr (.inr (.inr OF))))) := by rw [e_62]; exact hs_ne c_58 (hc_ne c_53 c_58 (by intro q; cases q))
  have c_71 : h_61[nb]? = some (.inr (17, [.ref sv, .int (nI 0), .int sx, .int sy])) := by rw [e_62]; exact hs_ne c_59 (hc_ne c_53 c_59 (by intro q; cases q))
  have c_72 : h_61[ra]? = some (.inr (16, [.ref sg, .ref ve', .ref ts, .int (nI R.length)])) := by rw [e_62]; exact hs_ne c_60 (hc_ne c_53 c_60 (by intro q; cases q))
  have FF := f_63
  have E : eW (okL l) h h_61 := ew_yq FF ⟨q1, q2, q3, q4, q5, q6⟩ hz.2.2.2.2.2.2 (fun k hk => by
    rcases hk with e | e | e <;> rw [e] <;> simp)
  have el : (lBr r ++ [(n, R)]).length = (lBr r).length + 1 := by rw [List.length_append]; rfl
  refine k _ FF E ⟨nm, ve, NF, RF, va_up BF (lBr r).length (some nb), va_up QF (lBr r).length (some ra), OF, ⟨?_, c_66, c_67, c_68, c_69, c_70⟩, ⟨a2.1, by show (lBr r ++ [(n, R)]).length ≤ 3; rw [el]; omega, a2.2.2⟩, a3.ew (E.mo okV_L), a4.ew (E.mo okV_L), a5.ew E, yDf_sn (a6.ew E) (S.ew (E.mo okV_L)) (B.ew E), a7.ew E⟩
  have c9 := c_65
  rw [← el] at c9
  exact c9
theorem mq_o {x2 : Value} {x3 x4 x5 : Option Value} {i nb : Nat} {n : kW} {F : Nat → Option Nat} (hz : yAd a nd nr bk br ow l) (Y : yQ l h a nd nr bk br ow r) (c23 : h[23]? = some (mo tl (nI ws.length) (nI i) o)) (c25 : h[25]? = some (.inl (9, 400, .inr (.inr (.inr (.inr F)))))) (hw : ws.length ≤ 400) (hi : i < ws.length) (hF : F i = some nb) (S : sS h nb n) (hn : (lOw r).length < 4) (k : ∀ h', fr_ (fun z => z = 23 ∨ z = a ∨ z = ow) h h' → eW (okL l) h h' → yQ l h' a nd nr bk br ow (lNo r, lNm r, lVe r, lNe r, lBr r, lOw r ++ [n]) → h'[23]? = some (mo tl (nI ws.length) (nI (i + 1)) o) → rt_ X (d + 1) 131 72 [some (.ref 23), some (.ref a), some x2, x3, x4, x5] [] h' Q) : rt_ X (d + 1) 131 127 [some (.ref 23), some (.ref a), some x2, x3, x4, x5] [] h Q := by
  obtain ⟨nm, ve, NF, RF, BF, QF, OF, ⟨q1, q2, q3, q4, q5, q6⟩, a2, a3, a4, a5, a6, a7⟩ := id Y
  obtain ⟨sv, sx, sy, sc, -, -⟩ := S.at
  refine rt_k (k := 1) (pc' := 128) (L' := [some (.ref 23), some (.ref a), some (x2), x3, x4, x5]) (st' := [.ref a]) (h' := h) (fun _ => by first | rfl | (cases x3 <;> rfl) | (cases x4 <;> rfl) | (cases x5 <;> rfl)) ?_
  refine rt_gf rfl q1 rfl rfl ?_
  refine rt_k (k := 1) (pc' := 132) (L' := [some (.ref 23), some (.ref a), some (x2), x3, x4, x5]) (st' := [.ref a, .ref ow]) (h' := h) (fun _ => by first | rfl | (cases x3 <;> rfl) | (cases x4 <;> rfl) | (cases x5 <;> rfl)) ?_
  refine rt_gf rfl q1 rfl rfl ?_
  refine rt_k (k := 1) (pc' := 136) (L' := [some (.ref 23), some (.ref a), some (x2), x3, x4, x5]) (st' := [.ref 23, .int (nI ((lOw r).length)), .ref ow]) (h' := h) (fun _ => by first | rfl | (cases x3 <;> rfl) | (cases x4 <;> rfl) | (cases x5 <;> rfl)) ?_
  refine rt_cvE rfl (by decide) c23 rfl rfl rfl rfl (m_here1 c23 c25 hw hi hF) ?_
  refine rt_aasN rfl q6 sc ⟨rfl, rfl⟩ (by omega) (by decide) ?_
  refine rt_nm (fun h_73 e_74 => ?_)
  have f_75 : fr_ (fun z => z = 23 ∨ z = a ∨ z = ow) h h_73 := by rw [e_74]; exact fr_set (e' := .inl (9, 4, .inr (.inr (.inr (.inr (va_up OF ((lOw r).length) (some nb))))))) q6 (by rfl) (by first | decide | simp)
  have n_76 : h_73.length = h.length := by rw [e_74]; simp
  have c_77 : h_73[23]? = some (.inr (12, [.ref 24, .int tl, .ref 25, .int (nI ws.length), .int (nI i), .ref 26, .int (o 0), .int (o 1), .ref 27, .ref 28, .int (o 2), .ref 29, .int (o 3), .int (o 4), .ref 30, .ref 31, .int (o 5), .ref 32, .int (o 6), .ref 33, .ref 34, .int (o 7), .int (o 8), .ref 35])) := by rw [e_74]; exact hs_ne c23 (hc_ne q6 c23 (by intro q; cases q))
  have c_78 : h_73[25]? = some (.inl (9, 400, .inr (.inr (.inr (.inr F))))) := by rw [e_74]; exact hs_ne c25 (by omega)
  have c_79 : h_73[a]? = some (.inr (14, [.int (nI (lNo r)), .ref nm, .ref ve, .ref nd, .ref nr, .int (nI ((lNe r).length)), .ref bk, .ref br, .int (nI ((lBr r).length)), .ref ow, .int (nI ((lOw r).length))])) := by rw [e_74]; exact hs_ne q1 (hc_ne q6 q1 (by intro q; cases q))
  have c_80 : h_73[nd]? = some (.inl (9, 6, .inr (.inr (.inr (.inr NF))))) := by rw [e_74]; exact hs_ne q2 (by omega)
  have c_81 : h_73[nr]? = some (.inl (11, 6, .inr (.inr (.inr (.inr RF))))) := by rw [e_74]; exact hs_ne q3 (hc_ne q6 q3 (by intro q; cases q))
  have c_82 : h_73[bk]? = some (.inl (9, 3, .inr (.inr (.inr (.inr BF))))) := by rw [e_74]; exact hs_ne q4 (by omega)
  have c_83 : h_73[br]? = some (.inl (11, 3, .inr (.inr (.inr (.inr QF))))) := by rw [e_74]; exact hs_ne q5 (hc_ne q6 q5 (by intro q; cases q))
  have c_84 : h_73[ow]? = some (.inl (9, 4, .inr (.inr (.inr (.inr (va_up OF ((lOw r).length) (some nb))))))) := by rw [e_74]; exact hs_self q6
  have c_85 : h_73[nb]? = some (.inr (17, [.ref sv, .int (nI 0), .int sx, .int sy])) := by rw [e_74]; exact hs_ne sc (hc_ne q6 sc (by intro q; cases q))
  refine rt_k (k := 2) (pc' := 142) (L' := [some (.ref 23), some (.ref a), some (x2), x3, x4, x5]) (st' := [.ref a, .ref a]) (h' := h_73) (fun _ => by first | rfl | (cases x3 <;> rfl) | (cases x4 <;> rfl) | (cases x5 <;> rfl)) ?_
  refine rt_gf rfl c_79 rfl rfl ?_
  refine rt_k (k := 1) (pc' := 146) (L' := [some (.ref 23), some (.ref a), some (x2), x3, x4, x5]) (st' := [.int (nI 1), .int (nI ((lOw r).length)), .ref a]) (h' := h_73) (fun _ => by first | rfl | (cases x3 <;> rfl) | (cases x4 <;> rfl) | (cases x5 <;> rfl)) ?_
  refine rt_add rfl ?_
  refine rt_pf rfl c_79 ⟨rfl, (show 10 < 11 by decide), rfl⟩ ?_
  refine rt_nm (fun h_86 e_87 => ?_)
  have f_88 : fr_ (fun z => z = 23 ∨ z = a ∨ z = ow) h h_86 := by rw [e_87]; exact fr_tr f_75 (fr_set (e' := .inr (14, [.int (nI (lNo r)), .ref nm, .ref ve, .ref nd, .ref nr, .int (nI ((lNe r).length)), .ref bk, .ref br, .int (nI ((lBr r).length)), .ref ow, .int (nI (((lOw r).length) + 1))])) c_79 (by rfl) (by first | decide | simp))
  have n_89 : h_86.length = h_73.length := by rw [e_87]; simp
  have c_90 : h_86[23]? = some (.inr (12, [.ref 24, .int tl, .ref 25, .int (nI ws.length), .int (nI i), .ref 26, .int (o 0), .int (o 1), .ref 27, .ref 28, .int (o 2), .ref 29, .int (o 3), .int (o 4), .ref 30, .ref 31, .int (o 5), .ref 32, .int (o 6), .ref 33, .ref 34, .int (o 7), .int (o 8), .ref 35])) := by rw [e_87]; exact hs_ne c_77 (hc_ne c_79 c_77 (by intro q; cases q))
  have c_91 : h_86[25]? = some (.inl (9, 400, .inr (.inr (.inr (.inr F))))) := by rw [e_87]; exact hs_ne c_78 (hc_ne c_79 c_78 (by intro q; cases q))
  have c_92 : h_86[a]? = some (.inr (14, [.int (nI (lNo r)), .ref nm, .ref ve, .ref nd, .ref nr, .int (nI ((lNe r).length)), .ref bk, .ref br, .int (nI ((lBr r).length)), .ref ow, .int (nI (((lOw r).length) + 1))])) := by rw [e_87]; exact hs_self c_79
  have c_93 : h_86[nd]? = some (.inl (9, 6, .inr (.inr (.inr (.inr NF))))) := by rw [e_87]; exact hs_ne c_80 (hc_ne c_79 c_80 (by intro q; cases q))
  have c_94 : h_86[nr]? = some (.inl (11, 6, .inr (.inr (.inr (.inr RF))))) := by rw [e_87]; exact hs_ne c_81 (hc_ne c_79 c_81 (by intro q; cases q))
  have c_95 : h_86[bk]? = some (.inl (9, 3, .inr (.inr (.inr (.inr BF))))) := by rw [e_87]; exact hs_ne c_82 (hc_ne c_79 c_82 (by intro q; cases q))
  have c_96 : h_86[br]? = some (.inl (11, 3, .inr (.inr (.inr (.inr QF))))) := by rw [e_87]; exact hs_ne c_83 (hc_ne c_79 c_83 (by intro q; cases q))
  have c_97 : h_86[ow]? = some (.inl (9, 4, .inr (.inr (.inr (.inr (va_up OF ((lOw r).length) (some nb))))))) := by rw [e_87]; exact hs_ne c_84 (hc_ne c_79 c_84 (by intro q; cases q))
  have c_98 : h_86[nb]? = some (.inr (17, [.ref sv, .int (nI 0), .int sx, .int sy])) := by rw [e_87]; exact hs_ne c_85 (hc_ne c_79 c_85 (by intro q; cases q))
  refine rt_k (k := 2) (pc' := 152) (L' := [some (.ref 23), some (.ref a), some (x2), x3, x4, x5]) (st' := [.ref 23, .ref 23]) (h' := h_86) (fun _ => by first | rfl | (cases x3 <;> rfl) | (cases x4 <;> rfl) | (cases x5 <;> rfl)) ?_
  refine rt_gf rfl c_90 rfl rfl ?_
  refine rt_k (k := 1) (pc' := 156) (L' := [some (.ref 23), some (.ref a), some (x2), x3, x4, x5]) (st' := [.int (nI 1), .int (nI i), .ref 23]) (h' := h_86) (fun _ => by first | rfl | (cases x3 <;> rfl) | (cases x4 <;> rfl) | (cases x5 <;> rfl)) ?_
  refine rt_add rfl ?_
  refine rt_pf rfl c_90 ⟨rfl, (show 4 < 24 by decide), rfl⟩ ?_
  refine rt_nm (fun h_99 e_100 => ?_)
  have f_101 : fr_ (fun z => z = 23 ∨ z = a ∨ z = ow) h h_99 := by rw [e_100]; exact fr_tr f_88 (fr_set (e' := .inr (12, [.ref 24, .int tl, .ref 25, .int (nI ws.length), .int (nI (i + 1)), .ref 26, .int (o 0), .int (o 1), .ref 27, .ref 28, .int (o 2), .ref 29, .int (o 3), .int (o 4), .ref 30, .ref 31, .int (o 5), .ref 32, .int (o 6), .ref 33, .ref 34, .int (o 7), .int (o 8), .ref 35])) c_90 (by rfl) (by first | decide | simp))
  have n_102 : h_99.length = h_86.length := by rw [e_100]; simp
  have c_103 : h_99[23]? = some (.inr (12, [.ref 24, .int tl, .ref 25, .int (nI ws.length), .int (nI (i + 1)), .ref 26, .int (o 0), .int (o 1), .ref 27, .ref 28, .int (o 2), .ref 29, .int (o 3), .int (o 4), .ref 30, .ref 31, .int (o 5), .ref 32, .int (o 6), .ref 33, .ref 34, .int (o 7), .int (o 8), .ref 35])) := by rw [e_100]; exact hs_self c_90
  have c_104 : h_99[25]? = some (.inl (9, 400, .inr (.inr (.inr (.inr F))))) := by rw [e_100]; exact hs_ne c_91 (by decide)
  have c_105 : h_99[a]? = some (.inr (14, [.int (nI (lNo r)), .ref nm, .ref ve, .ref nd, .ref nr, .int (nI ((lNe r).length)), .ref bk, .ref br, .int (nI ((lBr r).length)), .ref ow, .int (nI (((lOw r).length) + 1))])) := by rw [e_100]; exact hs_ne c_92 (hc_ne c_90 c_92 (by intro q; cases q))
  have c_106 : h_99[nd]? = some (.inl (9, 6, .inr (.inr (.inr (.inr NF))))) := by rw [e_100]; exact hs_ne c_93 (hc_ne c_90 c_93 (by intro q; cases q))
  have c_107 : h_99[nr]? = some (.inl (11, 6, .inr (.inr (.inr (.inr RF))))) := by rw [e_100]; exact hs_ne c_94 (hc_ne c_90 c_94 (by intro q; cases q))
  have c_108 : h_99[bk]? = some (.inl (9, 3, .inr (.inr (.inr (.inr BF))))) := by rw [e_100]; exact hs_ne c_95 (hc_ne c_90 c_95 (by intro q; cases q))
  have c_109 : h_99[br]? = some (.inl (11, 3, .inr (.inr (.inr (.inr QF))))) := by rw [e_100]; exact hs_ne c_96 (hc_ne c_90 c_96 (by intro q; cases q))
  have c_110 : h_99[ow]? = some (.inl (9, 4, .inr (.inr (.inr (.inr (va_up OF ((lOw r).length) (some nb))))))) := by rw [e_100]; exact hs_ne c_97 (hc_ne c_90 c_97 (by intro q; cases q))
  have c_111 : h_99[nb]? = some (.inr (17, [.ref sv, .int (nI 0), .int sx, .int sy])) := by rw [e_100]; exact hs_ne c_98 (hc_ne c_90 c_98 (by intro q; cases q))
  refine rt_k (k := 1) (pc' := 72) (L' := [some (.ref 23), some (.ref a), some (x2), x3, x4, x5]) (st' := []) (h' := h_99) (fun _ => by first | rfl | (cases x3 <;> rfl) | (cases x4 <;> rfl) | (cases x5 <;> rfl)) ?_
  have FF := f_101
  have E : eW (okL l) h h_99 := ew_yq FF ⟨q1, q2, q3, q4, q5, q6⟩ hz.2.2.2.2.2.2 (fun k hk => by
    rcases hk with e | e | e <;> rw [e] <;> simp)
  have el : (lOw r ++ [n]).length = (lOw r).length + 1 := by rw [List.length_append]; rfl
  refine k _ FF E ⟨nm, ve, NF, RF, BF, QF, va_up OF (lOw r).length (some nb), ⟨?_, c_106, c_107, c_108, c_109, c_110⟩, ⟨a2.1, a2.2.1, by show (lOw r ++ [n]).length ≤ 4; rw [el]; omega⟩, a3.ew (E.mo okV_L), a4.ew (E.mo okV_L), a5.ew E, a6.ew E, fun j w hj => ?_⟩ c_103
  · have c9 := c_105
    rw [← el] at c9
    exact c9
  · rcases gt_snoc hj with q | ⟨q, e9⟩
    · obtain ⟨b, x, y⟩ := a7.ew E j w q
      have := gt_lt q
      exact ⟨b, by unfold va_up; rw [if_neg (by omega)]; exact x, y⟩
    · exact ⟨nb, by unfold va_up; rw [if_pos q], by rw [e9]; exact S.ew (E.mo okV_L)⟩
end MQ

