/-! THE REFERENCE, 12: a range read. -/
def pAf (us : List kW) (nc nt : Nat) (q : List kT) (R : kR) : Option (kR × List kW) := match us with
  | [] => some (R ++ [q], [])
  | u :: us => if u = tx 4 then (if nc = 4 then none else pRg us (nc + 1) 0 [] (R ++ [q])) else if isCl u = true then some (R ++ [q], u :: us) else pRg (u :: us) nc nt q R
theorem pRg_c (w : kW) (ws : List kW) (nc nt : Nat) (q : List kT) (R : kR) : pRg (w :: ws) nc nt q R = if nt = 4 then none else match pTst w with
    | none => none
    | some t => pAf ws nc (nt + 1) (q ++ [t]) R := by
  rw [pRg]
  cases pTst w with
  | none => rfl
  | some t => cases ws <;> rfl
/-- what is read where a test or the end of a choice may stand -/
def pHd (us : List kW) (q : List kT) (R : kR) : Option (kR × List kW) := if q.length = 0 then pRg us (R.length + 1) 0 [] R else pAf us (R.length + 1) q.length q R
theorem pTst_cl {w : kW} (h : isCl w = true ∨ w = tx 4) : pTst w = none := by
  have : w = tx 0 ∨ w = tx 1 ∨ w = tx 2 ∨ w = tx 4 := by
    rcases h with q | q
    · unfold isCl at q; rw [decide_eq_true_eq] at q
      rcases q with q | q | q
      · exact Or.inl q
      · exact Or.inr (Or.inl q)
      · exact Or.inr (Or.inr (Or.inl q))
    · exact Or.inr (Or.inr (Or.inr q))
  rcases this with q | q | q | q <;> rw [q] <;> decide
theorem q_nil {q : List kT} (h : q.length = 0) : q = [] := List.length_eq_zero_iff.mp h
theorem pHd_t {w : kW} {us : List kW} {q : List kT} {R : kR} (h1 : ¬ isCl w = true) (h2 : ¬ w = tx 4) : pHd (w :: us) q R = if q.length = 4 then none else match pTst w with
    | none => none
    | some t => pHd us (q ++ [t]) R := by
  have e : pHd (w :: us) q R = pRg (w :: us) (R.length + 1) q.length q R := by
    unfold pHd
    by_cases z : q.length = 0
    · rw [if_pos z, z, q_nil z]
    · rw [if_neg z]
      unfold pAf
      dsimp only
      rw [if_neg h2, if_neg h1]
  rw [e, pRg_c]
  cases pTst w with
  | none => rfl
  | some t =>
    dsimp only
    unfold pHd
    rw [if_neg (show ¬ (q ++ [t]).length = 0 by rw [List.length_append]; exact Nat.succ_ne_zero _), List.length_append]
    rfl
theorem pHd_e0 {us : List kW} {q : List kT} {R : kR} (h : ∀ w us', us = w :: us' → isCl w = true ∨ w = tx 4) (hq : q.length = 0) : pHd us q R = none := by
  unfold pHd
  rw [if_pos hq]
  cases us with
  | nil => rfl
  | cons w us =>
    rw [pRg_c, pTst_cl (h w us rfl)]
    rfl
theorem pHd_en {q : List kT} {R : kR} (hq : ¬ q.length = 0) : pHd [] q R = some (R ++ [q], []) := by unfold pHd; rw [if_neg hq]; rfl
theorem pHd_cl {u : kW} {us : List kW} {q : List kT} {R : kR} (hq : ¬ q.length = 0) (hc : isCl u = true) : pHd (u :: us) q R = some (R ++ [q], u :: us) := by
  unfold pHd
  rw [if_neg hq]
  unfold pAf
  dsimp only
  rw [if_neg (fun z => by rw [z] at hc; exact absurd hc (by decide)), if_pos hc]
theorem pHd_or {us : List kW} {q : List kT} {R : kR} (hq : ¬ q.length = 0) : pHd (tx 4 :: us) q R = if R.length + 1 = 4 then none else pHd us [] (R ++ [q]) := by
  unfold pHd
  rw [if_neg hq, if_pos (show ([] : List kT).length = 0 from rfl)]
  unfold pAf
  dsimp only
  rw [if_pos rfl, List.length_append]
  rfl
theorem pRng_Hd (us : List kW) : pRng us = pHd us [] [] := rfl
/-- a range that is being read -/
def yB (l : Nat) (h : List va_E) (a sg ve ts : Nat) (R : kR) (q : List kT) : Prop := ∃ (S : Nat → Int32) (F : Nat → Option Nat) (N : Nat → Int32), h[a]? = some (.inr (16, [.ref sg, .ref ve, .ref ts, .int (nI R.length)])) ∧ h[sg]? = some (.inl (2, 16, .inl S)) ∧ h[ve]? = some (.inl (13, 16, .inr (.inr (.inr (.inr F))))) ∧ h[ts]? = some (.inl (2, 4, .inl N)) ∧ R.length ≤ 4 ∧ q.length ≤ 4 ∧ yRf l h S F N R ∧ (∀ (i : Nat) t, q[i]? = some t → yT l h (S (4 * R.length + i)) (F (4 * R.length + i)) t) ∧ ∀ k, 4 * R.length + q.length ≤ k → S k = nI 0 ∧ F k = none
def mrP (h0 : List va_E) (tl : Int32) (ws : List kW) (i0 : Nat) (o : Nat → Int32) (r : Option (kR × List kW)) (v : Option Value) (h' : List va_E) : Prop := (∃ R us i' a, r = some (R, us) ∧ us = ws.drop i' ∧ i0 ≤ i' ∧ i' ≤ ws.length ∧ v = some (.ref a) ∧ h0.length ≤ a ∧ gr (fun z => z = 23) (4 + 19 * (i' - i0)) (40 + 450 * (i' - i0)) h0 h' ∧ yR h0.length h' a R ∧ h'[23]? = some (mo tl (nI ws.length) (nI i') o)) ∨ (r = none ∧ v = some .null ∧ gr (fun z => z = 23) (4 + 19 * (ws.length - i0)) (40 + 450 * (ws.length - i0)) h0 h' ∧ ∃ p', h'[23]? = some (mo tl (nI ws.length) p' o))
section MM
variable {X : Nat × (Nat → Int32)} {d : Nat} {h : List va_E} {Q : Option Value → List va_E → Prop} {o : Nat → Int32} {ws : List kW} {tl : Int32}
theorem mr_ini {a : Nat} (ca : h[a]? = some (.inr (16, [.null, .null, .null, .int (nI 0)]))) : rt_ X d 144 0 [some (.ref a)] [] h (fun v h' => v = none ∧ gr (fun z => z = a) 3 36 h h' ∧ ∃ sg ve ts, h.length ≤ sg ∧ sg < ve ∧ ve < ts ∧ yB 0 h' a sg ve ts [] []) := by
  have hla := hc_lt ca
  refine rt_k (k := 4) (pc' := 7) (L' := [some (.ref a)]) (st' := [.int (nI 16), .ref a]) (h' := h) (fun _ => rfl) ?_
  refine rt_k (k := 1) (pc' := 9) (L' := [some (.ref a)]) (st' := [.ref h.length, .ref a]) (h' := (h ++ [.inl (2, 16, .inl (fun _ => 0))])) (fun _ => rfl) ?_
  refine rt_nm (fun h_1 e_2 => ?_)
  have g_3 : gr (fun z => z = a) 1 (16) h h_1 := by rw [e_2]; exact gr_mo (gr_tr (gr_rf (h := h)) (gr_app (.inl (2, 16, .inl (fun _ => 0))))) (fun _ q => q) (by first | exact Nat.le_refl _ | omega) (by first | exact Nat.le_refl _ | (simp only [ab_z]; omega))
  have n_4 : h_1.length = h.length + 1 := by rw [e_2]; simp
  have c_5 : h_1[a]? = some (.inr (16, [.null, .null, .null, .int (nI 0)])) := by rw [e_2]; exact ha_old _ ca
  have c_6 : h_1[h.length]? = some (.inl (2, 16, .inl (fun _ => 0))) := by rw [e_2]; exact ha_new
  refine rt_pf rfl c_5 ⟨rfl, (show 0 < 4 by decide), rfl⟩ ?_
  refine rt_nm (fun h_7 e_8 => ?_)
  have g_9 : gr (fun z => z = a) 1 (16) h h_7 := by rw [e_8]; exact gr_mo (gr_tr g_3 (gr_fr (fr_set (e' := .inr (16, [.ref h.length, .null, .null, .int (nI 0)])) c_5 (by rfl) (by first | decide | simp)))) (fun _ q => q) (by first | exact Nat.le_refl _ | omega) (by first | exact Nat.le_refl _ | (simp only [ab_z]; omega))
  have n_10 : h_7.length = h_1.length := by rw [e_8]; simp
  have c_11 : h_7[a]? = some (.inr (16, [.ref h.length, .null, .null, .int (nI 0)])) := by rw [e_8]; exact hs_self c_5
  have c_12 : h_7[h.length]? = some (.inl (2, 16, .inl (fun _ => 0))) := by rw [e_8]; exact hs_ne c_6 (hc_ne c_5 c_6 (by intro q; cases q))
  refine rt_k (k := 1) (pc' := 13) (L' := [some (.ref a)]) (st' := [.ref a]) (h' := h_7) (fun _ => rfl) ?_
  refine rt_k (k := 1) (pc' := 15) (L' := [some (.ref a)]) (st' := [.int (nI 16), .ref a]) (h' := h_7) (fun _ => rfl) ?_
  refine rt_k (k := 1) (pc' := 18) (L' := [some (.ref a)]) (st' := [.ref h_7.length, .ref a]) (h' := (h_7 ++ [.inl (13, 16, .inr (.inr (.inr (.inr (fun _ => none)))))])) (fun _ => rfl) ?_
  refine rt_nm (fun h_13 e_14 => ?_)
  have g_15 : gr (fun z => z = a) 2 (32) h h_13 := by rw [e_14]; exact gr_mo (gr_tr g_9 (gr_app (.inl (13, 16, .inr (.inr (.inr (.inr (fun _ => none)))))))) (fun _ q => q) (by first | exact Nat.le_refl _ | omega) (by first | exact Nat.le_refl _ | (simp only [ab_z]; omega))
  have n_16 : h_13.length = h_7.length + 1 := by rw [e_14]; simp
  have c_17 : h_13[a]? = some (.inr (16, [.ref h.length, .null, .null, .int (nI 0)])) := by rw [e_14]; exact ha_old _ c_11
  have c_18 : h_13[h.length]? = some (.inl (2, 16, .inl (fun _ => 0))) := by rw [e_14]; exact ha_old _ c_12
  have c_19 : h_13[h_7.length]? = some (.inl (13, 16, .inr (.inr (.inr (.inr (fun _ => none)))))) := by rw [e_14]; exact ha_new
  refine rt_pf rfl c_17 ⟨rfl, (show 1 < 4 by decide), rfl⟩ ?_
  refine rt_nm (fun h_20 e_21 => ?_)
  have g_22 : gr (fun z => z = a) 2 (32) h h_20 := by rw [e_21]; exact gr_mo (gr_tr g_15 (gr_fr (fr_set (e' := .inr (16, [.ref h.length, .ref h_7.length, .null, .int (nI 0)])) c_17 (by rfl) (by first | decide | simp)))) (fun _ q => q) (by first | exact Nat.le_refl _ | omega) (by first | exact Nat.le_refl _ | (simp only [ab_z]; omega))
  have n_23 : h_20.length = h_13.length := by rw [e_21]; simp
  have c_24 : h_20[a]? = some (.inr (16, [.ref h.length, .ref h_7.length, .null, .int (nI 0)])) := by rw [e_21]; exact hs_self c_17
  have c_25 : h_20[h.length]? = some (.inl (2, 16, .inl (fun _ => 0))) := by rw [e_21]; exact hs_ne c_18 (hc_ne c_17 c_18 (by intro q; cases q))
  have c_26 : h_20[h_7.length]? = some (.inl (13, 16, .inr (.inr (.inr (.inr (fun _ => none)))))) := by rw [e_21]; exact hs_ne c_19 (hc_ne c_17 c_19 (by intro q; cases q))
  refine rt_k (k := 2) (pc' := 23) (L' := [some (.ref a)]) (st' := [.int (nI 4), .ref a]) (h' := h_20) (fun _ => rfl) ?_
  refine rt_k (k := 1) (pc' := 25) (L' := [some (.ref a)]) (st' := [.ref h_20.length, .ref a]) (h' := (h_20 ++ [.inl (2, 4, .inl (fun _ => 0))])) (fun _ => rfl) ?_
  refine rt_nm (fun h_27 e_28 => ?_)
  have g_29 : gr (fun z => z = a) 3 (36) h h_27 := by rw [e_28]; exact gr_mo (gr_tr g_22 (gr_app (.inl (2, 4, .inl (fun _ => 0))))) (fun _ q => q) (by first | exact Nat.le_refl _ | omega) (by first | exact Nat.le_refl _ | (simp only [ab_z]; omega))
  have n_30 : h_27.length = h_20.length + 1 := by rw [e_28]; simp
  have c_31 : h_27[a]? = some (.inr (16, [.ref h.length, .ref h_7.length, .null, .int (nI 0)])) := by rw [e_28]; exact ha_old _ c_24
  have c_32 : h_27[h.length]? = some (.inl (2, 16, .inl (fun _ => 0))) := by rw [e_28]; exact ha_old _ c_25
  have c_33 : h_27[h_7.length]? = some (.inl (13, 16, .inr (.inr (.inr (.inr (fun _ => none)))))) := by rw [e_28]; exact ha_old _ c_26
  have c_34 : h_27[h_20.length]? = some (.inl (2, 4, .inl (fun _ => 0))) := by rw [e_28]; exact ha_new
  refine rt_pf rfl c_31 ⟨rfl, (show 2 < 4 by decide), rfl⟩ ?_
  refine rt_nm (fun h_35 e_36 => ?_)
  have g_37 : gr (fun z => z = a) 3 (36) h h_35 := by rw [e_36]; exact gr_mo (gr_tr g_29 (gr_fr (fr_set (e' := .inr (16, [.ref h.length, .ref h_7.length, .ref h_20.length, .int (nI 0)])) c_31 (by rfl) (by first | decide | simp)))) (fun _ q => q) (by first | exact Nat.le_refl _ | omega) (by first | exact Nat.le_refl _ | (simp only [ab_z]; omega))
  have n_38 : h_35.length = h_27.length := by rw [e_36]; simp
  have c_39 : h_35[a]? = some (.inr (16, [.ref h.length, .ref h_7.length, .ref h_20.length, .int (nI 0)])) := by rw [e_36]; exact hs_self c_31
  have c_40 : h_35[h.length]? = some (.inl (2, 16, .inl (fun _ => 0))) := by rw [e_36]; exact hs_ne c_32 (hc_ne c_31 c_32 (by intro q; cases q))
  have c_41 : h_35[h_7.length]? = some (.inl (13, 16, .inr (.inr (.inr (.inr (fun _ => none)))))) := by rw [e_36]; exact hs_ne c_33 (hc_ne c_31 c_33 (by intro q; cases q))
  have c_42 : h_35[h_20.length]? = some (.inl (2, 4, .inl (fun _ => 0))) := by rw [e_36]; exact hs_ne c_34 (hc_ne c_31 c_34 (by intro q; cases q))
  exact rt_r (v := none) rfl rfl ⟨rfl, g_37, h.length, h_7.length, h_20.length, Nat.le_refl _, by omega, by omega, _, _, _, c_39, c_40, c_41, c_42, by simp, by simp, fun c q hq => by simp at hq, fun i t ht => by simp at ht, fun k hk => ⟨rfl, rfl⟩⟩
theorem mW.g {h0 : List va_E} {c s : Nat} (W : mW h0 ws) (G : gr (fun z => z = 23) c s h0 h) : mW h ws := by
  have E := gr_ex G (fun k q => by unfold zz at q; omega)
  obtain ⟨F, c25, -⟩ := id W
  exact W.ex E (G.2.2.2 25 (hc_lt c25) (by decide))
/-- the end of a choice: what is read is put into the range -/
theorem mr_put {h0 : List va_E} {a sg ve ts : Nat} (hz : h0.length ≤ a ∧ a < sg ∧ sg < ve ∧ ve < ts) {R : kR} {q : List kT} (hR : R.length < 4) (Y : yB h0.length h a sg ve ts R q) {x4 : Option Value} (k : ∀ h', fr_ (fun z => z = a ∨ z = ts) h h' → yB h0.length h' a sg ve ts (R ++ [q]) [] → rt_ X d 143 163 [some (.ref 23), some (.ref a), some (.int (nI 1)), some (.int (nI q.length)), x4] [] h' Q) : rt_ X d 143 143 [some (.ref 23), some (.ref a), some (.int (nI 1)), some (.int (nI q.length)), x4] [] h Q := by
  obtain ⟨S, F, N, y1, y2, y3, y4, y5, y6, y7, y8, y9⟩ := Y
  refine rt_k (k := 1) (pc' := 144) (L' := [some (.ref 23), some (.ref a), some (.int (nI 1)), some (.int (nI q.length)), x4]) (st' := [.ref a]) (h' := h) (fun _ => by first | rfl | (cases x4 <;> rfl)) ?_
  refine rt_gf rfl y1 rfl rfl ?_
  refine rt_k (k := 1) (pc' := 148) (L' := [some (.ref 23), some (.ref a), some (.int (nI 1)), some (.int (nI q.length)), x4]) (st' := [.ref a, .ref ts]) (h' := h) (fun _ => by first | rfl | (cases x4 <;> rfl)) ?_
  refine rt_gf rfl y1 rfl rfl ?_
  refine rt_k (k := 1) (pc' := 152) (L' := [some (.ref 23), some (.ref a), some (.int (nI 1)), some (.int (nI q.length)), x4]) (st' := [.int (nI q.length), .int (nI R.length), .ref ts]) (h' := h) (fun _ => by first | rfl | (cases x4 <;> rfl)) ?_
  refine rt_iasN rfl y4 rfl (by omega) (by decide) ?_
  refine rt_nm (fun h_43 e_44 => ?_)
  have f_45 : fr_ (fun z => z = a ∨ z = ts) h h_43 := by rw [e_44]; exact fr_set (e' := .inl (2, 4, .inl (upd N R.length (nI q.length)))) y4 (by rfl) (by first | decide | simp)
  have n_46 : h_43.length = h.length := by rw [e_44]; simp
  have c_47 : h_43[a]? = some (.inr (16, [.ref sg, .ref ve, .ref ts, .int (nI R.length)])) := by rw [e_44]; exact hs_ne y1 (hc_ne y4 y1 (by intro q; cases q))
  have c_48 : h_43[sg]? = some (.inl (2, 16, .inl S)) := by rw [e_44]; exact hs_ne y2 (by omega)
  have c_49 : h_43[ve]? = some (.inl (13, 16, .inr (.inr (.inr (.inr F))))) := by rw [e_44]; exact hs_ne y3 (hc_ne y4 y3 (by intro q; cases q))
  have c_50 : h_43[ts]? = some (.inl (2, 4, .inl (upd N R.length (nI q.length)))) := by rw [e_44]; exact hs_self y4
  refine rt_k (k := 2) (pc' := 155) (L' := [some (.ref 23), some (.ref a), some (.int (nI 1)), some (.int (nI q.length)), x4]) (st' := [.ref a, .ref a]) (h' := h_43) (fun _ => by first | rfl | (cases x4 <;> rfl)) ?_
  refine rt_gf rfl c_47 rfl rfl ?_
  refine rt_k (k := 1) (pc' := 159) (L' := [some (.ref 23), some (.ref a), some (.int (nI 1)), some (.int (nI q.length)), x4]) (st' := [.int (nI 1), .int (nI R.length), .ref a]) (h' := h_43) (fun _ => by first | rfl | (cases x4 <;> rfl)) ?_
  refine rt_add rfl ?_
  refine rt_pf rfl c_47 ⟨rfl, (show 3 < 4 by decide), rfl⟩ ?_
  refine rt_nm (fun h_51 e_52 => ?_)
  have f_53 : fr_ (fun z => z = a ∨ z = ts) h h_51 := by rw [e_52]; exact fr_tr f_45 (fr_set (e' := .inr (16, [.ref sg, .ref ve, .ref ts, .int (nI (R.length + 1))])) c_47 (by rfl) (by first | decide | simp))
  have n_54 : h_51.length = h_43.length := by rw [e_52]; simp
  have c_55 : h_51[a]? = some (.inr (16, [.ref sg, .ref ve, .ref ts, .int (nI (R.length + 1))])) := by rw [e_52]; exact hs_self c_47
  have c_56 : h_51[sg]? = some (.inl (2, 16, .inl S)) := by rw [e_52]; exact hs_ne c_48 (hc_ne c_47 c_48 (by intro q; cases q))
  have c_57 : h_51[ve]? = some (.inl (13, 16, .inr (.inr (.inr (.inr F))))) := by rw [e_52]; exact hs_ne c_49 (hc_ne c_47 c_49 (by intro q; cases q))
  have c_58 : h_51[ts]? = some (.inl (2, 4, .inl (upd N R.length (nI q.length)))) := by rw [e_52]; exact hs_ne c_50 (hc_ne c_47 c_50 (by intro q; cases q))
  have FF := f_53
  have E : eW (okV h0.length) h h_51 := ew_fr FF (fun k hk => by
    rcases hk with e | e
    · rw [e]; exact Or.inr ⟨_, y1, by unfold okV; simp⟩
    · rw [e]; exact Or.inr ⟨_, y4, by unfold okV; simp⟩)
  have el : (R ++ [q]).length = R.length + 1 := by rw [List.length_append]; rfl
  refine k _ FF ⟨S, F, _, by rw [el]; exact c_55, c_56, c_57, c_58, by rw [el]; omega, Nat.zero_le _, fun c q' hc => ?_, fun i t ht => (by simp at ht), fun k hk => y9 k (by rw [el, List.length_nil] at hk; omega)⟩
  rcases gt_snoc hc with w | ⟨w, e9⟩
  · obtain ⟨a1, a2, a3⟩ := y7.ew E c q' w
    have := gt_lt w
    exact ⟨by unfold upd; rw [if_neg (by omega)]; exact a1, a2, a3⟩
  · rw [w, e9]
    exact ⟨by unfold upd; rw [if_pos rfl], y6, fun i t ht => (y8 i t ht).ew E⟩
end MM

