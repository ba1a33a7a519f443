/-! THE REFERENCE, 15: a release that is being read. -/
def yDf (l : Nat) (h : List va_E) (NF RF : Nat → Option Nat) (D : kD) : Prop := ∀ (i : Nat) e, D[i]? = some e → (∃ b, NF i = some b ∧ sS h b e.1) ∧ ∃ ra, RF i = some ra ∧ yR l h ra e.2
theorem yDf.ex {l : Nat} {h h' : List va_E} {NF RF : Nat → Option Nat} {D : kD} (E : ex_ h h') (C : yDf l h NF RF D) : yDf l h' NF RF D := fun i e he => by
  obtain ⟨⟨b, x, y⟩, ra, z, w⟩ := C i e he
  exact ⟨⟨b, x, y.ex E⟩, ra, z, w.ex E⟩
theorem yDf.ew {l : Nat} {h h' : List va_E} {NF RF : Nat → Option Nat} {D : kD} (E : eW (okL l) h h') (C : yDf l h NF RF D) : yDf l h' NF RF D := fun i e he => by
  obtain ⟨⟨b, x, y⟩, ra, z, w⟩ := C i e he
  exact ⟨⟨b, x, y.ew (E.mo okV_L)⟩, ra, z, w.ew E⟩
theorem yDf.mo {l l' : Nat} {h : List va_E} {NF RF : Nat → Option Nat} {D : kD} (hl : l' ≤ l) (C : yDf l h NF RF D) : yDf l' h NF RF D := fun i e he => by
  obtain ⟨⟨b, x, y⟩, ra, z, w⟩ := C i e he
  exact ⟨⟨b, x, y⟩, ra, z, w.mo hl⟩
theorem mWf.ew {l : Nat} {h h' : List va_E} {F : Nat → Option Nat} {ws : List kW} (E : eW (okL l) h h') (C : mWf h F ws) : mWf h' F ws := fun i w hw => by
  obtain ⟨a, x, y⟩ := C i w hw
  exact ⟨a, x, y.ew (E.mo okV_L)⟩
/-- a Release of the reference -/
def yL (h : List va_E) (a : Nat) (r : kL) : Prop := ∃ (nm ve nd nr bk br ow : Nat) (NF RF BF QF OF : Nat → Option Nat), z_ h a (.inr (14, [.int (nI (lNo r)), .ref nm, .ref ve, .ref nd, .ref nr, .int (nI (lNe r).length), .ref bk, .ref br, .int (nI (lBr r).length), .ref ow, .int (nI (lOw r).length)])) ∧ z_ h nd (.inl (9, 6, .inr (.inr (.inr (.inr NF))))) ∧ z_ h nr (.inl (11, 6, .inr (.inr (.inr (.inr RF))))) ∧ z_ h bk (.inl (9, 3, .inr (.inr (.inr (.inr BF))))) ∧ z_ h br (.inl (11, 3, .inr (.inr (.inr (.inr QF))))) ∧ z_ h ow (.inl (9, 4, .inr (.inr (.inr (.inr OF))))) ∧ ((lNe r).length ≤ 6 ∧ (lBr r).length ≤ 3 ∧ (lOw r).length ≤ 4) ∧ sS h nm (lNm r) ∧ yV h ve (lVe r) ∧ yDf 0 h NF RF (lNe r) ∧ yDf 0 h BF QF (lBr r) ∧ mWf h OF (lOw r)
theorem yL.ex {h h' : List va_E} {a : Nat} {r : kL} (E : ex_ h h') (C : yL h a r) : yL h' a r := by
  obtain ⟨nm, ve, nd, nr, bk, br, ow, NF, RF, BF, QF, OF, a1, a2, a3, a4, a5, a6, a7, a8, a9, b1, b2, b3⟩ := C
  exact ⟨nm, ve, nd, nr, bk, br, ow, NF, RF, BF, QF, OF, E _ _ a1, E _ _ a2, E _ _ a3, E _ _ a4, E _ _ a5, E _ _ a6, a7, a8.ex E, a9.ex E, b1.ex E, b2.ex E, b3.ex E⟩
/-- .. in the making: its cells -/
def yq (h : List va_E) (a nd nr bk br ow : Nat) (no nm ve : Value) (n b o : Nat) (NF RF BF QF OF : Nat → Option Nat) : Prop := h[a]? = some (.inr (14, [no, nm, ve, .ref nd, .ref nr, .int (nI n), .ref bk, .ref br, .int (nI b), .ref ow, .int (nI o)])) ∧ h[nd]? = some (.inl (9, 6, .inr (.inr (.inr (.inr NF))))) ∧ h[nr]? = some (.inl (11, 6, .inr (.inr (.inr (.inr RF))))) ∧ h[bk]? = some (.inl (9, 3, .inr (.inr (.inr (.inr BF))))) ∧ h[br]? = some (.inl (11, 3, .inr (.inr (.inr (.inr QF))))) ∧ h[ow]? = some (.inl (9, 4, .inr (.inr (.inr (.inr OF)))))
def yQ (l : Nat) (h : List va_E) (a nd nr bk br ow : Nat) (r : kL) : Prop := ∃ (nm ve : Nat) (NF RF BF QF OF : Nat → Option Nat), yq h a nd nr bk br ow (.int (nI (lNo r))) (.ref nm) (.ref ve) (lNe r).length (lBr r).length (lOw r).length NF RF BF QF OF ∧ ((lNe r).length ≤ 6 ∧ (lBr r).length ≤ 3 ∧ (lOw r).length ≤ 4) ∧ sS h nm (lNm r) ∧ yVl l h ve (lVe r) ∧ yDf l h NF RF (lNe r) ∧ yDf l h BF QF (lBr r) ∧ mWf h OF (lOw r)
theorem yQ.ew {l : Nat} {h h' : List va_E} {a nd nr bk br ow : Nat} {r : kL} (Y : yQ l h a nd nr bk br ow r) (E : eW (okL l) h h') (e : ∀ k, k = a ∨ k = nd ∨ k = nr ∨ k = bk ∨ k = br ∨ k = ow → h'[k]? = h[k]?) : yQ l h' a nd nr bk br ow r := by
  obtain ⟨nm, ve, NF, RF, BF, QF, OF, ⟨q1, q2, q3, q4, q5, q6⟩, a2, a3, a4, a5, a6, a7⟩ := Y
  exact ⟨nm, ve, NF, RF, BF, QF, OF, ⟨(e _ (by simp)).trans q1, (e _ (by simp)).trans q2, (e _ (by simp)).trans q3, (e _ (by simp)).trans q4, (e _ (by simp)).trans q5, (e _ (by simp)).trans q6⟩, a2, a3.ew (E.mo okV_L), a4.ew (E.mo okV_L), a5.ew E, a6.ew E, a7.ew E⟩
section MP
variable {X : Nat × (Nat → Int32)} {d : Nat} {h : List va_E} {Q : Option Value → List va_E → Prop} {o : Nat → Int32} {ws : List kW} {tl : Int32}
theorem ml_ini {a : Nat} (ca : h[a]? = some (.inr (14, [.int (nI 0), .null, .null, .null, .null, .int (nI 0), .null, .null, .int (nI 0), .null, .int (nI 0)]))) : rt_ X d 133 0 [some (.ref a)] [] h (fun v h' => v = none ∧ gr (fun z => z = a) 5 22 h h' ∧ ∃ nd nr bk br ow NF RF BF QF OF, (h.length ≤ nd ∧ nd < nr ∧ nr < bk ∧ bk < br ∧ br < ow ∧ ow < h'.length) ∧ yq h' a nd nr bk br ow (.int (nI 0)) .null .null 0 0 0 NF RF BF QF OF) := by
  have hla := hc_lt ca
  refine rt_k (k := 4) (pc' := 7) (L' := [some (.ref a)]) (st' := [.int (nI 6), .ref a]) (h' := h) (fun _ => rfl) ?_
  refine rt_k (k := 1) (pc' := 10) (L' := [some (.ref a)]) (st' := [.ref h.length, .ref a]) (h' := (h ++ [.inl (9, 6, .inr (.inr (.inr (.inr (fun _ => none)))))])) (fun _ => rfl) ?_
  refine rt_nm (fun h_1 e_2 => ?_)
  have g_3 : gr (fun z => z = a) 1 (6) h h_1 := by rw [e_2]; exact gr_mo (gr_tr (gr_rf (h := h)) (gr_app (.inl (9, 6, .inr (.inr (.inr (.inr (fun _ => none)))))))) (fun _ q => q) (by first | exact Nat.le_refl _ | omega) (by first | exact Nat.le_refl _ | (simp only [ab_z]; omega))
  have n_4 : h_1.length = h.length + 1 := by rw [e_2]; simp
  have c_5 : h_1[a]? = some (.inr (14, [.int (nI 0), .null, .null, .null, .null, .int (nI 0), .null, .null, .int (nI 0), .null, .int (nI 0)])) := by rw [e_2]; exact ha_old _ ca
  have c_6 : h_1[h.length]? = some (.inl (9, 6, .inr (.inr (.inr (.inr (fun _ => none)))))) := by rw [e_2]; exact ha_new
  refine rt_pf rfl c_5 ⟨rfl, (show 3 < 11 by decide), rfl⟩ ?_
  refine rt_nm (fun h_7 e_8 => ?_)
  have g_9 : gr (fun z => z = a) 1 (6) h h_7 := by rw [e_8]; exact gr_mo (gr_tr g_3 (gr_fr (fr_set (e' := .inr (14, [.int (nI 0), .null, .null, .ref h.length, .null, .int (nI 0), .null, .null, .int (nI 0), .null, .int (nI 0)])) c_5 (by rfl) (by first | decide | simp)))) (fun _ q => q) (by first | exact Nat.le_refl _ | omega) (by first | exact Nat.le_refl _ | (simp only [ab_z]; omega))
  have n_10 : h_7.length = h_1.length := by rw [e_8]; simp
  have c_11 : h_7[a]? = some (.inr (14, [.int (nI 0), .null, .null, .ref h.length, .null, .int (nI 0), .null, .null, .int (nI 0), .null, .int (nI 0)])) := by rw [e_8]; exact hs_self c_5
  have c_12 : h_7[h.length]? = some (.inl (9, 6, .inr (.inr (.inr (.inr (fun _ => none)))))) := by rw [e_8]; exact hs_ne c_6 (hc_ne c_5 c_6 (by intro q; cases q))
  refine rt_k (k := 2) (pc' := 16) (L' := [some (.ref a)]) (st' := [.int (nI 6), .ref a]) (h' := h_7) (fun _ => rfl) ?_
  refine rt_k (k := 1) (pc' := 19) (L' := [some (.ref a)]) (st' := [.ref h_7.length, .ref a]) (h' := (h_7 ++ [.inl (11, 6, .inr (.inr (.inr (.inr (fun _ => none)))))])) (fun _ => rfl) ?_
  refine rt_nm (fun h_13 e_14 => ?_)
  have g_15 : gr (fun z => z = a) 2 (12) h h_13 := by rw [e_14]; exact gr_mo (gr_tr g_9 (gr_app (.inl (11, 6, .inr (.inr (.inr (.inr (fun _ => none)))))))) (fun _ q => q) (by first | exact Nat.le_refl _ | omega) (by first | exact Nat.le_refl _ | (simp only [ab_z]; omega))
  have n_16 : h_13.length = h_7.length + 1 := by rw [e_14]; simp
  have c_17 : h_13[a]? = some (.inr (14, [.int (nI 0), .null, .null, .ref h.length, .null, .int (nI 0), .null, .null, .int (nI 0), .null, .int (nI 0)])) := by rw [e_14]; exact ha_old _ c_11
  have c_18 : h_13[h.length]? = some (.inl (9, 6, .inr (.inr (.inr (.inr (fun _ => none)))))) := by rw [e_14]; exact ha_old _ c_12
  have c_19 : h_13[h_7.length]? = some (.inl (11, 6, .inr (.inr (.inr (.inr (fun _ => none)))))) := by rw [e_14]; exact ha_new
  refine rt_pf rfl c_17 ⟨rfl, (show 4 < 11 by decide), rfl⟩ ?_
  refine rt_nm (fun h_20 e_21 => ?_)
  have g_22 : gr (fun z => z = a) 2 (12) h h_20 := by rw [e_21]; exact gr_mo (gr_tr g_15 (gr_fr (fr_set (e' := .inr (14, [.int (nI 0), .null, .null, .ref h.length, .ref h_7.length, .int (nI 0), .null, .null, .int (nI 0), .null, .int (nI 0)])) c_17 (by rfl) (by first | decide | simp)))) (fun _ q => q) (by first | exact Nat.le_refl _ | omega) (by first | exact Nat.le_refl _ | (simp only [ab_z]; omega))
  have n_23 : h_20.length = h_13.length := by rw [e_21]; simp
  have c_24 : h_20[a]? = some (.inr (14, [.int (nI 0), .null, .null, .ref h.length, .ref h_7.length, .int (nI 0), .null, .null, .int (nI 0), .null, .int (nI 0)])) := by rw [e_21]; exact hs_self c_17
  have c_25 : h_20[h.length]? = some (.inl (9, 6, .inr (.inr (.inr (.inr (fun _ => none)))))) := by rw [e_21]; exact hs_ne c_18 (hc_ne c_17 c_18 (by intro q; cases q))
  have c_26 : h_20[h_7.length]? = some (.inl (11, 6, .inr (.inr (.inr (.inr (fun _ => none)))))) := by rw [e_21]; exact hs_ne c_19 (hc_ne c_17 c_19 (by intro q; cases q))
  refine rt_k (k := 2) (pc' := 24) (L' := [some (.ref a)]) (st' := [.int (nI 3), .ref a]) (h' := h_20) (fun _ => rfl) ?_
  refine rt_k (k := 1) (pc' := 27) (L' := [some (.ref a)]) (st' := [.ref h_20.length, .ref a]) (h' := (h_20 ++ [.inl (9, 3, .inr (.inr (.inr (.inr (fun _ => none)))))])) (fun _ => rfl) ?_
  refine rt_nm (fun h_27 e_28 => ?_)
  have g_29 : gr (fun z => z = a) 3 (15) h h_27 := by rw [e_28]; exact gr_mo (gr_tr g_22 (gr_app (.inl (9, 3, .inr (.inr (.inr (.inr (fun _ => none)))))))) (fun _ q => q) (by first | exact Nat.le_refl _ | omega) (by first | exact Nat.le_refl _ | (simp only [ab_z]; omega))
  have n_30 : h_27.length = h_20.length + 1 := by rw [e_28]; simp
  have c_31 : h_27[a]? = some (.inr (14, [.int (nI 0), .null, .null, .ref h.length, .ref h_7.length, .int (nI 0), .null, .null, .int (nI 0), .null, .int (nI 0)])) := by rw [e_28]; exact ha_old _ c_24
  have c_32 : h_27[h.length]? = some (.inl (9, 6, .inr (.inr (.inr (.inr (fun _ => none)))))) := by rw [e_28]; exact ha_old _ c_25
  have c_33 : h_27[h_7.length]? = some (.inl (11, 6, .inr (.inr (.inr (.inr (fun _ => none)))))) := by rw [e_28]; exact ha_old _ c_26
  have c_34 : h_27[h_20.length]? = some (.inl (9, 3, .inr (.inr (.inr (.inr (fun _ => none)))))) := by rw [e_28]; exact ha_new
  refine rt_pf rfl c_31 ⟨rfl, (show 6 < 11 by decide), rfl⟩ ?_
  refine rt_nm (fun h_35 e_36 => ?_)
  have g_37 : gr (fun z => z = a) 3 (15) h h_35 := by rw [e_36]; exact gr_mo (gr_tr g_29 (gr_fr (fr_set (e' := .inr (14, [.int (nI 0), .null, .null, .ref h.length, .ref h_7.length, .int (nI 0), .ref h_20.length, .null, .int (nI 0), .null, .int (nI 0)])) c_31 (by rfl) (by first | decide | simp)))) (fun _ q => q) (by first | exact Nat.le_refl _ | omega) (by first | exact Nat.le_refl _ | (simp only [ab_z]; omega))
  have n_38 : h_35.length = h_27.length := by rw [e_36]; simp
  have c_39 : h_35[a]? = some (.inr (14, [.int (nI 0), .null, .null, .ref h.length, .ref h_7.length, .int (nI 0), .ref h_20.length, .null, .int (nI 0), .null, .int (nI 0)])) := by rw [e_36]; exact hs_self c_31
  have c_40 : h_35[h.length]? = some (.inl (9, 6, .inr (.inr (.inr (.inr (fun _ => none)))))) := by rw [e_36]; exact hs_ne c_32 (hc_ne c_31 c_32 (by intro q; cases q))
  have c_41 : h_35[h_7.length]? = some (.inl (11, 6, .inr (.inr (.inr (.inr (fun _ => none)))))) := by rw [e_36]; exact hs_ne c_33 (hc_ne c_31 c_33 (by intro q; cases q))
  have c_42 : h_35[h_20.length]? = some (.inl (9, 3, .inr (.inr (.inr (.inr (fun _ => none)))))) := by rw [e_36]; exact hs_ne c_34 (hc_ne c_31 c_34 (by intro q; cases q))
  refine rt_k (k := 2) (pc' := 32) (L' := [some (.ref a)]) (st' := [.int (nI 3), .ref a]) (h' := h_35) (fun _ => rfl) ?_
  refine rt_k (k := 1) (pc' := 35) (L' := [some (.ref a)]) (st' := [.ref h_35.length, .ref a]) (h' := (h_35 ++ [.inl (11, 3, .inr (.inr (.inr (.inr (fun _ => none)))))])) (fun _ => rfl) ?_
  refine rt_nm (fun h_43 e_44 => ?_)
  have g_45 : gr (fun z => z = a) 4 (18) h h_43 := by rw [e_44]; exact gr_mo (gr_tr g_37 (gr_app (.inl (11, 3, .inr (.inr (.inr (.inr (fun _ => none)))))))) (fun _ q => q) (by first | exact Nat.le_refl _ | omega) (by first | exact Nat.le_refl _ | (simp only [ab_z]; omega))
  have n_46 : h_43.length = h_35.length + 1 := by rw [e_44]; simp
  have c_47 : h_43[a]? = some (.inr (14, [.int (nI 0), .null, .null, .ref h.length, .ref h_7.length, .int (nI 0), .ref h_20.length, .null, .int (nI 0), .null, .int (nI 0)])) := by rw [e_44]; exact ha_old _ c_39
  have c_48 : h_43[h.length]? = some (.inl (9, 6, .inr (.inr (.inr (.inr (fun _ => none)))))) := by rw [e_44]; exact ha_old _ c_40
  have c_49 : h_43[h_7.length]? = some (.inl (11, 6, .inr (.inr (.inr (.inr (fun _ => none)))))) := by rw [e_44]; exact ha_old _ c_41
  have c_50 : h_43[h_20.length]? = some (.inl (9, 3, .inr (.inr (.inr (.inr (fun _ => none)))))) := by rw [e_44]; exact ha_old _ c_42
  have c_51 : h_43[h_35.length]? = some (.inl (11, 3, .inr (.inr (.inr (.inr (fun _ => none)))))) := by rw [e_44]; exact ha_new
  refine rt_pf rfl c_47 ⟨rfl, (show 7 < 11 by decide), rfl⟩ ?_
  refine rt_nm (fun h_52 e_53 => ?_)
  have g_54 : gr (fun z => z = a) 4 (18) h h_52 := by rw [e_53]; exact gr_mo (gr_tr g_45 (gr_fr (fr_set (e' := .inr (14, [.int (nI 0), .null, .null, .ref h.length, .ref h_7.length, .int (nI 0), .ref h_20.length, .ref h_35.length, .int (nI 0), .null, .int (nI 0)])) c_47 (by rfl) (by first | decide | simp)))) (fun _ q => q) (by first | exact Nat.le_refl _ | omega) (by first | exact Nat.le_refl _ | (simp only [ab_z]; omega))
  have n_55 : h_52.length = h_43.length := by rw [e_53]; simp
  have c_56 : h_52[a]? = some (.inr (14, [.int (nI 0), .null, .null, .ref h.length, .ref h_7.length, .int (nI 0), .ref h_20.length, .ref h_35.length, .int (nI 0), .null, .int (nI 0)])) := by rw [e_53]; exact hs_self c_47
  have c_57 : h_52[h.length]? = some (.inl (9, 6, .inr (.inr (.inr (.inr (fun _ => none)))))) := by rw [e_53]; exact hs_ne c_48 (hc_ne c_47 c_48 (by intro q; cases q))
  have c_58 : h_52[h_7.length]? = some (.inl (11, 6, .inr (.inr (.inr (.inr (fun _ => none)))))) := by rw [e_53]; exact hs_ne c_49 (hc_ne c_47 c_49 (by intro q; cases q))
  have c_59 : h_52[h_20.length]? = some (.inl (9, 3, .inr (.inr (.inr (.inr (fun _ => none)))))) := by rw [e_53]; exact hs_ne c_50 (hc_ne c_47 c_50 (by intro q; cases q))
  have c_60 : h_52[h_35.length]? = some (.inl (11, 3, .inr (.inr (.inr (.inr (fun _ => none)))))) := by rw [e_53]; exact hs_ne c_51 (hc_ne c_47 c_51 (by intro q; cases q))
  refine rt_k (k := 2) (pc' := 40) (L' := [some (.ref a)]) (st' := [.int (nI 4), .ref a]) (h' := h_52) (fun _ => rfl) ?_
  refine rt_k (k := 1) (pc' := 43) (L' := [some (.ref a)]) (st' := [.ref h_52.length, .ref a]) (h' := (h_52 ++ [.inl (9, 4, .inr (.inr (.inr (.inr (fun _ => none)))))])) (fun _ => rfl) ?_
  refine rt_nm (fun h_61 e_62 => ?_)
  have g_63 : gr (fun z => z = a) 5 (22) h h_61 := by rw [e_62]; exact gr_mo (gr_tr g_54 (gr_app (.inl (9, 4, .inr (.inr (.inr (.inr (fun _ => none)))))))) (fun _ q => q) (by first | exact Nat.le_refl _ | omega) (by first | exact Nat.le_refl _ | (simp only [ab_z]; omega))
  have n_64 : h_61.length = h_52.length + 1 := by rw [e_62]; simp
  have c_65 : h_61[a]? = some (.inr (14, [.int (nI 0), .null, .null, .ref h.length, .ref h_7.length, .int (nI 0), .ref h_20.length, .ref h_35.length, .int (nI 0), .null, .int (nI 0)])) := by rw [e_62]; exact ha_old _ c_56
  have c_66 : h_61[h.length]? = some (.inl (9, 6, .inr (.inr (.inr (.inr (fun _ => none)))))) := by rw [e_62]; exact ha_old _ c_57
  have c_67 : h_61[h_7.length]? = some (.inl (11, 6, .inr (.inr (.inr (.inr (fun _ => none)))))) := by rw [e_62]; exact ha_old _ c_58
  have c_68 : h_61[h_20.length]? = some (.inl (9, 3, .inr (.inr (.inr (.inr (fun _ => none)))))) := by rw [e_62]; exact ha_old _ c_59
  have c_69 : h_61[h_35.length]? = some (.inl (11, 3, .inr (.inr (.inr (.inr (fun _ => none)))))) := by rw [e_62]; exact ha_old _ c_60
  have c_70 : h_61[h_52.length]? = some (.inl (9, 4, .inr (.inr (.inr (.inr (fun _ => none)))))) := by rw [e_62]; exact ha_new
  refine rt_pf rfl c_65 ⟨rfl, (show 9 < 11 by decide), rfl⟩ ?_
  refine rt_nm (fun h_71 e_72 => ?_)
  have g_73 : gr (fun z => z = a) 5 (22) h h_71 := by rw [e_72]; exact gr_mo (gr_tr g_63 (gr_fr (fr_set (e' := .inr (14, [.int (nI 0), .null, .null, .ref h.length, .ref h_7.length, .int (nI 0), .ref h_20.length, .ref h_35.length, .int (nI 0), .ref h_52.length, .int (nI 0)])) c_65 (by rfl) (by first | decide | simp)))) (fun _ q => q) (by first | exact Nat.le_refl _ | omega) (by first | exact Nat.le_refl _ | (simp only [ab_z]; omega))
  have n_74 : h_71.length = h_61.length := by rw [e_72]; simp
  have c_75 : h_71[a]? = some (.inr (14, [.int (nI 0), .null, .null, .ref h.length, .ref h_7.length, .int (nI 0), .ref h_20.length, .ref h_35.length, .int (nI 0), .ref h_52.length, .int (nI 0)])) := by rw [e_72]; exact hs_self c_65
  have c_76 : h_71[h.length]? = some (.inl (9, 6, .inr (.inr (.inr (.inr (fun _ => none)))))) := by rw [e_72]; exact hs_ne c_66 (hc_ne c_65 c_66 (by intro q; cases q))
  have c_77 : h_71[h_7.length]? = some (.inl (11, 6, .inr (.inr (.inr (.inr (fun _ => none)))))) := by rw [e_72]; exact hs_ne c_67 (hc_ne c_65 c_67 (by intro q; cases q))
  have c_78 : h_71[h_20.length]? = some (.inl (9, 3, .inr (.inr (.inr (.inr (fun _ => none)))))) := by rw [e_72]; exact hs_ne c_68 (hc_ne c_65 c_68 (by intro q; cases q))
  have c_79 : h_71[h_35.length]? = some (.inl (11, 3, .inr (.inr (.inr (.inr (fun _ => none)))))) := by rw [e_72]; exact hs_ne c_69 (hc_ne c_65 c_69 (by intro q; cases q))
  have c_80 : h_71[h_52.length]? = some (.inl (9, 4, .inr (.inr (.inr (.inr (fun _ => none)))))) := by rw [e_72]; exact hs_ne c_70 (hc_ne c_65 c_70 (by intro q; cases q))
  exact rt_r (v := none) rfl rfl ⟨rfl, g_73, h.length, h_7.length, h_20.length, h_35.length, h_52.length, _, _, _, _, _, ⟨Nat.le_refl _, by omega, by omega, by omega, by omega, by omega⟩, c_75, c_76, c_77, c_78, c_79, c_80⟩
/-- the cells of a release in the making are no version's and no range's -/
theorem ew_yq {l : Nat} {A : Nat → Prop} {h' : List va_E} {a nd nr bk br ow : Nat} {no nm ve : Value} {n b o : Nat} {NF RF BF QF OF : Nat → Option Nat} (F : fr_ A h h') (C : yq h a nd nr bk br ow no nm ve n b o NF RF BF QF OF) (hl : ow < l) (hA : ∀ k, A k → k = 23 ∨ k = a ∨ k = nd ∨ k = nr ∨ k = bk ∨ k = br ∨ k = ow) : eW (okL l) h h' := by
  obtain ⟨q1, q2, q3, q4, q5, q6⟩ := C
  refine ew_fr F (fun k hk => ?_)
  rcases hA k hk with e | e | e | e | e | e | e
  · exact Or.inl (by unfold zz; omega)
  · exact Or.inr ⟨_, by rw [e]; exact q1, by unfold okL; simp⟩
  · exact Or.inr ⟨_, by rw [e]; exact q2, by unfold okL; simp⟩
  · exact Or.inr ⟨_, by rw [e]; exact q3, by unfold okL; simp⟩
  · exact Or.inr ⟨_, by rw [e]; exact q4, by unfold okL; simp⟩
  · exact Or.inr ⟨_, by rw [e]; exact q5, by unfold okL; simp⟩
  · exact Or.inr ⟨_, by rw [e]; exact q6, by unfold okL; simp; omega⟩
end MP

