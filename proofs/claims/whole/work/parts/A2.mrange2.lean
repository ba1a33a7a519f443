/-! THE REFERENCE, 13: a range read, whole. -/
theorem vup_s {f : Nat → Option Nat} {i : Nat} {x : Option Nat} : va_up f i x i = x := by unfold va_up; rw [if_pos rfl]
section MN
variable {X : Nat × (Nat → Int32)} {d : Nat} {h : List va_E} {Q : Option Value → List va_E → Prop} {o : Nat → Int32} {ws : List kW} {tl : Int32}
theorem drop_c {i : Nat} {w : kW} (h : ws[i]? = some w) : ws.drop i = w :: ws.drop (i + 1) := by
  have hi := gt_lt h
  rw [List.drop_eq_getElem_cons hi]
  rw [List.getElem?_eq_getElem hi] at h
  cases h; rfl
theorem yB.ew {l : Nat} {h' : List va_E} {a sg ve ts : Nat} {R : kR} {q : List kT} (Y : yB l h a sg ve ts R q) (E : eW (okV l) h h') (e1 : h'[a]? = h[a]?) (e2 : h'[sg]? = h[sg]?) (e3 : h'[ve]? = h[ve]?) (e4 : h'[ts]? = h[ts]?) : yB l h' a sg ve ts R q := by
  obtain ⟨S, F, N, y1, y2, y3, y4, y5, y6, y7, y8, y9⟩ := Y
  exact ⟨S, F, N, e1.trans y1, e2.trans y2, e3.trans y3, e4.trans y4, y5, y6, y7.ew E, fun i t ht => (y8 i t ht).ew E, y9⟩
theorem mr_lp {h0 : List va_E} {i0 a sg ve ts : Nat} (h39 : 39 ≤ h0.length) (W0 : mW h0 ws) (hz : h0.length ≤ a ∧ a < sg ∧ sg < ve ∧ ve < ts) (i : Nat) (h : List va_E) (R : kR) (q : List kT) (hi0 : i0 ≤ i) (hi : i ≤ ws.length) (G : gr (fun z => z = 23) (4 + 19 * (i - i0)) (40 + 450 * (i - i0)) h0 h) (c23 : h[23]? = some (mo tl (nI ws.length) (nI i) o)) (hR : R.length < 4) (Y : yB h0.length h a sg ve ts R q) (x4 : Option Value) : rt_ X (d + 7) 143 26 [some (.ref 23), some (.ref a), some (.int (nI 1)), some (.int (nI q.length)), x4] [] h (mrP h0 tl ws i0 o (pHd (ws.drop i) q R)) := by
  have hG := G.1
  obtain ⟨F25, c25, hw4, HF⟩ := id (W0.g G)
  have hcl : ∀ (h' : List va_E) {v : Value}, True := fun _ _ => trivial
  obtain ⟨S, F, N, y1, y2, y3, y4, y5, y6, y7, y8, y9⟩ := id Y
  -- the end of a choice
  have fin : (∀ w us', ws.drop i = w :: us' → isCl w = true ∨ w = tx 4) → rt_ X (d + 7) 143 137 [some (.ref 23), some (.ref a), some (.int (nI 1)), some (.int (nI q.length)), x4] [] h (mrP h0 tl ws i0 o (pHd (ws.drop i) q R)) := fun hw => by
    refine rt_k (k := 1) (pc' := 138) (L' := [some (.ref 23), some (.ref a), some (.int (nI 1)), some (.int (nI q.length)), x4]) (st' := [.int (nI q.length)]) (h' := h) (fun _ => by first | rfl | (cases x4 <;> rfl)) ?_
    refine rt_zne rfl (by omega) (fun z => ?_) (fun z => ?_)
    rotate_left
    ·
      rw [pHd_e0 hw z]
      refine rt_k (k := 1) (pc' := 142) (L' := [some (.ref 23), some (.ref a), some (.int (nI 1)), some (.int (nI q.length)), x4]) (st' := [.null]) (h' := h) (fun _ => by first | rfl | (cases x4 <;> rfl)) ?_
      exact rt_r (v := some (.null)) rfl rfl (Or.inr ⟨rfl, rfl, gr_mo G (fun _ q => q) (by omega) (by omega), _, c23⟩)
    have z' : ¬ q.length = 0 := by omega
    refine mr_put hz hR Y (fun h1 F1 Y1 => ?_)
    have el : (R ++ [q]).length = R.length + 1 := by rw [List.length_append]; rfl
    have G1 : gr (fun z => z = 23) (4 + 19 * (i - i0)) (40 + 450 * (i - i0)) h0 h1 := ⟨by rw [F1.1]; exact G.1, by rw [F1.1]; exact G.2.1, by rw [F1.2.1]; exact G.2.2.1, fun k hk hn => by rw [F1.2.2 k (by omega)]; exact G.2.2.2 k hk hn⟩
    have d23 : h1[23]? = some (mo tl (nI ws.length) (nI i) o) := fr_at F1 (by omega) c23
    obtain ⟨F25', d25, -, HF'⟩ := id (W0.g G1)
    obtain ⟨S1, FF1, N1, v1, v2, v3, v4, v5, v6, v7, v8, v9⟩ := id Y1
    -- no more
    have stop : ∀ us, ws.drop i = us → pHd us q R = some (R ++ [q], us) → rt_ X (d + 7) 143 174 [some (.ref 23), some (.ref a), some (.int (nI 1)), some (.int (nI q.length)), x4] [] h1 (mrP h0 tl ws i0 o (pHd us q R)) := fun us e1 e2 => by
      rw [e2]
      refine rt_k (k := 8) (pc' := 194) (L' := [some (.ref 23), some (.ref a), some (.int (nI 0)), some (.int (nI q.length)), x4]) (st' := [.ref a]) (h' := h1) (fun _ => by first | rfl | (cases x4 <;> rfl)) ?_
      exact rt_r (v := some (.ref a)) rfl rfl (Or.inl ⟨R ++ [q], us, i, a, rfl, e1.symm, hi0, hi, rfl, hz.1, G1, ⟨sg, ve, ts, S1, FF1, N1, ⟨by unfold zz; omega, v1⟩, ⟨by unfold zz; omega, v2⟩, ⟨by unfold zz; omega, v3⟩, ⟨by unfold zz; omega, v4⟩, v5, v7⟩, d23⟩)
    by_cases hl : i < ws.length
    · obtain ⟨w, hww⟩ := gt_ex hl
      obtain ⟨wa, f1, S⟩ := HF' i w hww
      have ed := drop_c hww
      have hw' := hw w _ ed
      rw [ed]
      refine rt_k (k := 1) (pc' := 164) (L' := [some (.ref 23), some (.ref a), some (.int (nI 1)), some (.int (nI q.length)), x4]) (st' := [.ref 23]) (h' := h1) (fun _ => by first | rfl | (cases x4 <;> rfl)) ?_
      refine rt_cvE rfl (by decide) d23 rfl rfl rfl rfl (m_ends1 (d := d + 4) d23 d25 hw4 hl f1 S) ?_
      refine rt_pn rfl (fun z1 => ?_) (fun z1 => ?_)
      ·
        exact stop _ ed (pHd_cl z' z1)
      have e4 : w = tx 4 := by rcases hw' with y | y; exact absurd y z1; exact y
      rw [e4, pHd_or z']
      refine rt_k (k := 7) (pc' := 182) (L' := [some (.ref 23), some (.ref a), some (.int (nI 1)), some (.int (nI q.length)), x4]) (st' := [.ref 23, .ref 23]) (h' := h1) (fun _ => by first | rfl | (cases x4 <;> rfl)) ?_
      refine rt_gf rfl d23 rfl rfl ?_
      refine rt_k (k := 1) (pc' := 186) (L' := [some (.ref 23), some (.ref a), some (.int (nI 1)), some (.int (nI q.length)), x4]) (st' := [.int (nI 1), .int (nI i), .ref 23]) (h' := h1) (fun _ => by first | rfl | (cases x4 <;> rfl)) ?_
      refine rt_add rfl ?_
      refine rt_pf rfl d23 ⟨rfl, (show 4 < 24 by decide), rfl⟩ ?_
      refine rt_nm (fun h_1 e_2 => ?_)
      have f_3 : fr_ (fun z => z = 23) h1 h_1 := by rw [e_2]; exact fr_set (e' := .inr (12, [.ref 24, .int tl, .ref 25, .int (nI ws.length), .int (nI (i + 1)), .ref 26, .int (o 0), .int (o 1), .ref 27, .ref 28, .int (o 2), .ref 29, .int (o 3), .int (o 4), .ref 30, .ref 31, .int (o 5), .ref 32, .int (o 6), .ref 33, .ref 34, .int (o 7), .int (o 8), .ref 35])) d23 (by rfl) (by first | decide | simp)
      have n_4 : h_1.length = h1.length := by rw [e_2]; simp
      have c_5 : h_1[23]? = some (.inr (12, [.ref 24, .int tl, .ref 25, .int (nI ws.length), .int (nI (i + 1)), .ref 26, .int (o 0), .int (o 1), .ref 27, .ref 28, .int (o 2), .ref 29, .int (o 3), .int (o 4), .ref 30, .ref 31, .int (o 5), .ref 32, .int (o 6), .ref 33, .ref 34, .int (o 7), .int (o 8), .ref 35])) := by rw [e_2]; exact hs_self d23
      have c_6 : h_1[a]? = some (.inr (16, [.ref sg, .ref ve, .ref ts, .int (nI ((R ++ [q]).length))])) := by rw [e_2]; exact hs_ne v1 (hc_ne d23 v1 (by intro q; cases q))
      refine rt_k (k := 1) (pc' := 10) (L' := [some (.ref 23), some (.ref a), some (.int (nI 1)), some (.int (nI q.length)), x4]) (st' := []) (h' := h_1) (fun _ => by first | rfl | (cases x4 <;> rfl)) ?_
      have F2 := f_3
      have c2 := c_5
      have G2 : gr (fun z => z = 23) (4 + 19 * (i + 1 - i0)) (40 + 450 * (i + 1 - i0)) h0 h_1 := gr_mo (gr_tr G1 (gr_fr F2)) (fun _ q => q) (by omega) (by omega)
      have Y2 := Y1.ew (ew_fr F2 (fun k hk => Or.inl (by unfold zz; omega))) (F2.2.2 a (by omega)) (F2.2.2 sg (by omega)) (F2.2.2 ve (by omega)) (F2.2.2 ts (by omega))
      have v21 := Y2
      obtain ⟨S2, FF2, N2, u1, -⟩ := v21
      generalize h_1 = h2 at *
      refine rt_k (k := 3) (pc' := 15) (L' := [some (.ref 23), some (.ref a), some (.int (nI 1)), some (.int (nI q.length)), x4]) (st' := [.ref a]) (h' := h2) (fun _ => by first | rfl | (cases x4 <;> rfl)) ?_
      refine rt_gf rfl u1 rfl rfl ?_
      refine rt_k (k := 1) (pc' := 19) (L' := [some (.ref 23), some (.ref a), some (.int (nI 1)), some (.int (nI q.length)), x4]) (st' := [.int (nI 4), .int (nI ((R ++ [q]).length))]) (h' := h2) (fun _ => by first | rfl | (cases x4 <;> rfl)) ?_
      refine rt_ine rfl (by omega) (by decide) (fun z2 => ?_) (fun z2 => ?_)
      rotate_left
      ·
        rw [if_pos (by omega)]
        refine rt_k (k := 1) (pc' := 23) (L' := [some (.ref 23), some (.ref a), some (.int (nI 1)), some (.int (nI q.length)), x4]) (st' := [.null]) (h' := h2) (fun _ => by first | rfl | (cases x4 <;> rfl)) ?_
        exact rt_r (v := some (.null)) rfl rfl (Or.inr ⟨rfl, rfl, gr_mo G2 (fun _ q => q) (by omega) (by omega), _, c2⟩)
      rw [if_neg (by omega)]
      refine rt_k (k := 2) (pc' := 26) (L' := [some (.ref 23), some (.ref a), some (.int (nI 1)), some (.int (nI 0)), x4]) (st' := []) (h' := h2) (fun _ => by first | rfl | (cases x4 <;> rfl)) ?_
      exact mr_lp h39 W0 hz (i + 1) h2 (R ++ [q]) [] (by omega) hl G2 c2 (by omega) Y2 x4
    · have ed : ws.drop i = [] := List.drop_of_length_le (by omega)
      rw [ed]
      refine rt_k (k := 1) (pc' := 164) (L' := [some (.ref 23), some (.ref a), some (.int (nI 1)), some (.int (nI q.length)), x4]) (st' := [.ref 23]) (h' := h1) (fun _ => by first | rfl | (cases x4 <;> rfl)) ?_
      refine rt_cvE rfl (by decide) d23 rfl rfl rfl rfl (m_ends0 d23 hw4 (by omega)) ?_
      refine rt_pn rfl (fun _ => ?_) (fun z => absurd z ((fun q => q trivial)))
      exact stop [] ed (pHd_en z')
  by_cases hl : i < ws.length
  rotate_left
  · have t0 := trivial
    refine rt_k (k := 1) (pc' := 27) (L' := [some (.ref 23), some (.ref a), some (.int (nI 1)), some (.int (nI q.length)), x4]) (st' := [.ref 23]) (h' := h) (fun _ => by first | rfl | (cases x4 <;> rfl)) ?_
    refine rt_cvE rfl (by decide) c23 rfl rfl rfl rfl (m_ends0 c23 hw4 (by omega)) ?_
    refine rt_pn rfl (fun _ => ?_) (fun z => absurd z ((fun q => q trivial)))
    exact fin (fun w us' e => by rw [List.drop_of_length_le (by omega)] at e; cases e)
  obtain ⟨w, hww⟩ := gt_ex hl
  obtain ⟨wa, f1, S0⟩ := HF i w hww
  obtain ⟨vw, xw, yw, cw, hlw, hbw⟩ := S0.at
  have ed := drop_c hww
  refine rt_k (k := 1) (pc' := 27) (L' := [some (.ref 23), some (.ref a), some (.int (nI 1)), some (.int (nI q.length)), x4]) (st' := [.ref 23]) (h' := h) (fun _ => by first | rfl | (cases x4 <;> rfl)) ?_
  refine rt_cvE rfl (by decide) c23 rfl rfl rfl rfl (m_ends1 (d := d + 4) c23 c25 hw4 hl f1 S0) ?_
  refine rt_pn rfl (fun z1 => ?_) (fun z1 => ?_)
  ·
    exact fin (fun w' us' e => by rw [ed] at e; cases e; exact Or.inl z1)
  refine rt_k (k := 1) (pc' := 34) (L' := [some (.ref 23), some (.ref a), some (.int (nI 1)), some (.int (nI q.length)), x4]) (st' := [.ref 23]) (h' := h) (fun _ => by first | rfl | (cases x4 <;> rfl)) ?_
  refine rt_cvE rfl (by decide) c23 rfl rfl rfl rfl (m_here1 c23 c25 hw4 hl f1) ?_
  refine rt_k (k := 1) (pc' := 39) (L' := [some (.ref 23), some (.ref a), some (.int (nI 1)), some (.int (nI q.length)), x4]) (st' := [.retAddr 4, .ref wa]) (h' := h) (fun _ => by first | rfl | (cases x4 <;> rfl)) ?_
  refine rt_cvE rfl (by decide) cw rfl rfl rfl rfl (ce_4 S0) ?_
  refine rt_pn rfl (fun z2 => ?_) (fun z2 => ?_)
  ·
    exact fin (fun w' us' e => by rw [ed] at e; cases e; exact Or.inr z2)
  rw [ed, pHd_t z1 z2]
  refine rt_k (k := 2) (pc' := 47) (L' := [some (.ref 23), some (.ref a), some (.int (nI 1)), some (.int (nI q.length)), x4]) (st' := [.int (nI 4), .int (nI q.length)]) (h' := h) (fun _ => by first | rfl | (cases x4 <;> rfl)) ?_
  refine rt_ine rfl (by omega) (by decide) (fun z3 => ?_) (fun z3 => ?_)
  rotate_left
  ·
    rw [if_pos z3]
    refine rt_k (k := 1) (pc' := 51) (L' := [some (.ref 23), some (.ref a), some (.int (nI 1)), some (.int (nI q.length)), x4]) (st' := [.null]) (h' := h) (fun _ => by first | rfl | (cases x4 <;> rfl)) ?_
    exact rt_r (v := some (.null)) rfl rfl (Or.inr ⟨rfl, rfl, gr_mo G (fun _ q => q) (by omega) (by omega), _, c23⟩)
  rw [if_neg z3]
  refine rt_k (k := 2) (pc' := 54) (L' := [some (.ref 23), some (.ref a), some (.int (nI 1)), some (.int (nI q.length)), x4]) (st' := [.ref a, .int (nI 4)]) (h' := h) (fun _ => by first | rfl | (cases x4 <;> rfl)) ?_
  refine rt_gf rfl y1 rfl rfl ?_
  refine rt_mul rfl ?_
  refine rt_k (k := 1) (pc' := 59) (L' := [some (.ref 23), some (.ref a), some (.int (nI 1)), some (.int (nI q.length)), x4]) (st' := [.int (nI q.length), .int (nI (4 * R.length))]) (h' := h) (fun _ => by first | rfl | (cases x4 <;> rfl)) ?_
  refine rt_add rfl ?_
  refine rt_k (k := 1) (pc' := 62) (L' := [some (.ref 23), some (.ref a), some (.int (nI 1)), some (.int (nI q.length)), some (.int (nI (4 * R.length + q.length)))]) (st' := []) (h' := h) (fun _ => by first | rfl | (cases x4 <;> rfl)) ?_
  -- one more test
  have nxt : ∀ (t : kT) (h1 : List va_E), gr (fun z => z = 23) (4 + 19 * (i + 1 - i0)) (40 + 450 * (i + 1 - i0)) h0 h1 → h1[23]? = some (mo tl (nI ws.length) (nI i) o) → yB h0.length h1 a sg ve ts R (q ++ [t]) → rt_ X (d + 7) 143 121 [some (.ref 23), some (.ref a), some (.int (nI 1)), some (.int (nI q.length)), some (.int (nI (4 * R.length + q.length)))] [] h1 (mrP h0 tl ws i0 o (pHd (ws.drop (i + 1)) (q ++ [t]) R)) := fun t h1 G1 d23 Y1 => by
    refine rt_inc (c := 1) rfl rfl ?_
    refine rt_k (k := 2) (pc' := 126) (L' := [some (.ref 23), some (.ref a), some (.int (nI 1)), some (.int (nI (q.length + 1))), some (.int (nI (4 * R.length + q.length)))]) (st' := [.ref 23, .ref 23]) (h' := h1) (fun _ => rfl) ?_
    refine rt_gf rfl d23 rfl rfl ?_
    refine rt_k (k := 1) (pc' := 130) (L' := [some (.ref 23), some (.ref a), some (.int (nI 1)), some (.int (nI (q.length + 1))), some (.int (nI (4 * R.length + q.length)))]) (st' := [.int (nI 1), .int (nI i), .ref 23]) (h' := h1) (fun _ => rfl) ?_
    refine rt_add rfl ?_
    refine rt_pf rfl d23 ⟨rfl, (show 4 < 24 by decide), rfl⟩ ?_
    refine rt_nm (fun h_7 e_8 => ?_)
    have f_9 : fr_ (fun z => z = 23) h1 h_7 := by rw [e_8]; exact fr_set (e' := .inr (12, [.ref 24, .int tl, .ref 25, .int (nI ws.length), .int (nI (i + 1)), .ref 26, .int (o 0), .int (o 1), .ref 27, .ref 28, .int (o 2), .ref 29, .int (o 3), .int (o 4), .ref 30, .ref 31, .int (o 5), .ref 32, .int (o 6), .ref 33, .ref 34, .int (o 7), .int (o 8), .ref 35])) d23 (by rfl) (by first | decide | simp)
    have n_10 : h_7.length = h1.length := by rw [e_8]; simp
    have c_11 : h_7[23]? = some (.inr (12, [.ref 24, .int tl, .ref 25, .int (nI ws.length), .int (nI (i + 1)), .ref 26, .int (o 0), .int (o 1), .ref 27, .ref 28, .int (o 2), .ref 29, .int (o 3), .int (o 4), .ref 30, .ref 31, .int (o 5), .ref 32, .int (o 6), .ref 33, .ref 34, .int (o 7), .int (o 8), .ref 35])) := by rw [e_8]; exact hs_self d23
    refine rt_k (k := 1) (pc' := 26) (L' := [some (.ref 23), some (.ref a), some (.int (nI 1)), some (.int (nI (q.length + 1))), some (.int (nI (4 * R.length + q.length)))]) (st' := []) (h' := h_7) (fun _ => rfl) ?_
    have F2 := f_9
    have c2 := c_11
    have G2 : gr (fun z => z = 23) (4 + 19 * (i + 1 - i0)) (40 + 450 * (i + 1 - i0)) h0 h_7 := gr_mo (gr_tr G1 (gr_fr F2)) (fun _ q => q) (by omega) (by omega)
    have Y2 := Y1.ew (ew_fr F2 (fun k hk => Or.inl (by unfold zz; omega))) (F2.2.2 a (by omega)) (F2.2.2 sg (by omega)) (F2.2.2 ve (by omega)) (F2.2.2 ts (by omega))
    have el : (q ++ [t]).length = q.length + 1 := by rw [List.length_append]; rfl
    have := mr_lp h39 W0 hz (i + 1) h_7 R (q ++ [t]) (by omega) hl G2 c2 hR Y2 (some (.int (nI (4 * R.length + q.length))))
    rw [el] at this
    exact this
  refine rt_k (k := 1) (pc' := 63) (L' := [some (.ref 23), some (.ref a), some (.int (nI 1)), some (.int (nI q.length)), some (.int (nI (4 * R.length + q.length)))]) (st' := [.ref 23]) (h' := h) (fun _ => rfl) ?_
  refine rt_cvE rfl (by decide) c23 rfl rfl rfl rfl (m_here1 c23 c25 hw4 hl f1) ?_
  refine rt_k (k := 1) (pc' := 68) (L' := [some (.ref 23), some (.ref a), some (.int (nI 1)), some (.int (nI q.length)), some (.int (nI (4 * R.length + q.length)))]) (st' := [.retAddr 3, .ref wa]) (h' := h) (fun _ => rfl) ?_
  refine rt_cvE rfl (by decide) cw rfl rfl rfl rfl (ce_3 S0) ?_
  refine rt_pn rfl (fun z4 => ?_) (fun z4 => ?_)
  ·
    have et : pTst w = some none := by unfold pTst; rw [if_pos z4]
    rw [et]
    have el : (q ++ [none]).length = q.length + 1 := by rw [List.length_append]; rfl
    refine nxt none h (gr_mo G (fun _ q => q) (by omega) (by omega)) c23 ⟨S, F, N, y1, y2, y3, y4, y5, by rw [el]; omega, y7, fun j t ht => ?_, fun k hk => y9 k (by rw [el] at hk; omega)⟩
    rcases gt_snoc ht with e | ⟨e, e9⟩
    · exact y8 j t e
    · rw [e, e9]; exact y9 _ (Nat.le_refl _)
  have et : pTst w = (pVer (w.drop (sgn w).2)).map (fun v => some ((sgn w).1, v)) := by unfold pTst; rw [if_neg z4]
  rw [et]
  have sl1 := sgn_len w
  refine rt_k (k := 1) (pc' := 75) (L' := [some (.ref 23), some (.ref a), some (.int (nI 1)), some (.int (nI q.length)), some (.int (nI (4 * R.length + q.length)))]) (st' := [.ref a]) (h' := h) (fun _ => rfl) ?_
  refine rt_gf rfl y1 rfl rfl ?_
  refine rt_k (k := 2) (pc' := 81) (L' := [some (.ref 23), some (.ref a), some (.int (nI 1)), some (.int (nI q.length)), some (.int (nI (4 * R.length + q.length)))]) (st' := [.ref 23, .int (nI (4 * R.length + q.length)), .ref sg]) (h' := h) (fun _ => rfl) ?_
  refine rt_cvE rfl (by decide) c23 rfl rfl rfl rfl (m_here1 c23 c25 hw4 hl f1) ?_
  refine rt_cE rfl rfl (m_sign S0) ?_
  refine rt_iasN rfl y2 rfl (by omega) (by decide) ?_
  refine rt_nm (fun h_12 e_13 => ?_)
  have f_14 : fr_ (fun z => z = sg) h h_12 := by rw [e_13]; exact fr_set (e' := .inl (2, 16, .inl (upd S (4 * R.length + q.length) (nI ((sgn w).1))))) y2 (by rfl) (by first | decide | simp)
  have n_15 : h_12.length = h.length := by rw [e_13]; simp
  have c_16 : h_12[23]? = some (.inr (12, [.ref 24, .int tl, .ref 25, .int (nI ws.length), .int (nI i), .ref 26, .int (o 0), .int (o 1), .ref 27, .ref 28, .int (o 2), .ref 29, .int (o 3), .int (o 4), .ref 30, .ref 31, .int (o 5), .ref 32, .int (o 6), .ref 33, .ref 34, .int (o 7), .int (o 8), .ref 35])) := by rw [e_13]; exact hs_ne c23 (hc_ne y2 c23 (by intro q; cases q))
  have c_17 : h_12[a]? = some (.inr (16, [.ref sg, .ref ve, .ref ts, .int (nI R.length)])) := by rw [e_13]; exact hs_ne y1 (hc_ne y2 y1 (by intro q; cases q))
  have c_18 : h_12[wa]? = some (.inr (17, [.ref vw, .int (nI 0), .int xw, .int yw])) := by rw [e_13]; exact hs_ne cw (hc_ne y2 cw (by intro q; cases q))
  have c_19 : h_12[sg]? = some (.inl (2, 16, .inl (upd S (4 * R.length + q.length) (nI ((sgn w).1))))) := by rw [e_13]; exact hs_self y2
  have c_20 : h_12[ve]? = some (.inl (13, 16, .inr (.inr (.inr (.inr F))))) := by rw [e_13]; exact hs_ne y3 (hc_ne y2 y3 (by intro q; cases q))
  have c_21 : h_12[ts]? = some (.inl (2, 4, .inl N)) := by rw [e_13]; exact hs_ne y4 (by omega)
  refine rt_k (k := 1) (pc' := 89) (L' := [some (.ref 23), some (.ref a), some (.int (nI 1)), some (.int (nI q.length)), some (.int (nI (4 * R.length + q.length)))]) (st' := [.ref a]) (h' := h_12) (fun _ => rfl) ?_
  refine rt_gf rfl c_17 rfl rfl ?_
  refine rt_k (k := 2) (pc' := 95) (L' := [some (.ref 23), some (.ref a), some (.int (nI 1)), some (.int (nI q.length)), some (.int (nI (4 * R.length + q.length)))]) (st' := [.ref 23, .int (nI (4 * R.length + q.length)), .ref ve]) (h' := h_12) (fun _ => rfl) ?_
  have F1 := f_14
  have b23 := c_16
  have b1 := c_17
  have b2 := c_19
  have b3 := c_20
  have b4 := c_21
  have E1 : eW (okV h0.length) h h_12 := ew_fr F1 (fun k hk => by rw [hk]; exact Or.inr ⟨_, y2, by unfold okV; simp⟩)
  have S1 := S0.ew E1
  have d25 : h_12[25]? = some (.inl (9, 400, .inr (.inr (.inr (.inr F25))))) := fr_at F1 (by omega) c25
  have l1 : h_12.length = h.length := F1.1
  have G1 : gr (fun z => z = 23) (4 + 19 * (i - i0)) (40 + 450 * (i - i0)) h0 h_12 := ⟨by rw [F1.1]; exact G.1, by rw [F1.1]; exact G.2.1, by rw [F1.2.1]; exact G.2.2.1, fun k hk hn => by rw [F1.2.2 k (by omega)]; exact G.2.2.2 k hk hn⟩
  generalize h_12 = h1 at *
  refine rt_cvE rfl (by decide) b23 rfl rfl rfl rfl (m_here1 b23 d25 hw4 hl f1) ?_
  refine rt_k (k := 1) (pc' := 99) (L' := [some (.ref 23), some (.ref a), some (.int (nI 1)), some (.int (nI q.length)), some (.int (nI (4 * R.length + q.length)))]) (st' := [.ref 23, .ref wa, .int (nI (4 * R.length + q.length)), .ref ve]) (h' := h1) (fun _ => rfl) ?_
  refine rt_cvE rfl (by decide) b23 rfl rfl rfl rfl (m_here1 b23 d25 hw4 hl f1) ?_
  refine rt_cE rfl rfl (m_signLength S1) ?_
  refine rt_c rfl rfl (m_version (by omega) S1 sl1.1) ?_
  rintro _ h2 ⟨g2, (⟨u, b, e1, rfl, lb, V⟩ | ⟨e1, rfl⟩)⟩
  ·
    have k23 := gr_at g2 b23 id
    have k1 := gr_at g2 b1 id
    have k2 := gr_at g2 b2 id
    have k3 := gr_at g2 b3 id
    have k4 := gr_at g2 b4 id
    have G2 := gr_mo (gr_tr G1 (gr_mo g2 (fun _ q => absurd q id) (Nat.le_refl _) (Nat.le_refl _))) (fun _ q => q) (show 4 + 19 * (i - i0) + 19 ≤ 4 + 19 * (i + 1 - i0) by omega) (show 40 + 450 * (i - i0) + 450 ≤ 40 + 450 * (i + 1 - i0) by omega)
    have E2 : eW (okV h0.length) h1 h2 := ew_ex (gr_ex g2 (fun _ _ => id))
    obtain ⟨na, ma, NN, FN, ⟨-, cb⟩, -⟩ := V.1
    refine rt_aasN rfl k3 cb ⟨rfl, rfl⟩ (by omega) (by decide) ?_
    refine rt_nm (fun h_22 e_23 => ?_)
    have f_24 : fr_ (fun z => z = ve) h2 h_22 := by rw [e_23]; exact fr_set (e' := .inl (13, 16, .inr (.inr (.inr (.inr (va_up F (4 * R.length + q.length) (some b))))))) k3 (by rfl) (by first | decide | simp)
    have n_25 : h_22.length = h2.length := by rw [e_23]; simp
    have c_26 : h_22[23]? = some (.inr (12, [.ref 24, .int tl, .ref 25, .int (nI ws.length), .int (nI i), .ref 26, .int (o 0), .int (o 1), .ref 27, .ref 28, .int (o 2), .ref 29, .int (o 3), .int (o 4), .ref 30, .ref 31, .int (o 5), .ref 32, .int (o 6), .ref 33, .ref 34, .int (o 7), .int (o 8), .ref 35])) := by rw [e_23]; exact hs_ne k23 (hc_ne k3 k23 (by intro q; cases q))
    have c_27 : h_22[a]? = some (.inr (16, [.ref sg, .ref ve, .ref ts, .int (nI R.length)])) := by rw [e_23]; exact hs_ne k1 (hc_ne k3 k1 (by intro q; cases q))
    have c_28 : h_22[sg]? = some (.inl (2, 16, .inl (upd S (4 * R.length + q.length) (nI (sgn w).1)))) := by rw [e_23]; exact hs_ne k2 (by omega)
    have c_29 : h_22[ve]? = some (.inl (13, 16, .inr (.inr (.inr (.inr (va_up F (4 * R.length + q.length) (some b))))))) := by rw [e_23]; exact hs_self k3
    have c_30 : h_22[ts]? = some (.inl (2, 4, .inl N)) := by rw [e_23]; exact hs_ne k4 (hc_ne k3 k4 (by intro q; cases q))
    have c_31 : h_22[b]? = some (.inr (15, [.ref na, .ref ma, .int (nI u.2.length)])) := by rw [e_23]; exact hs_ne cb (hc_ne k3 cb (by intro q; cases q))
    rw [e1]
    have F3 := f_24
    have E3 : eW (okV h0.length) h2 h_22 := ew_fr F3 (fun k hk => by rw [hk]; exact Or.inr ⟨_, k3, by unfold okV; simp⟩)
    have E13 := (E1.tr E2).tr E3
    have q23 := c_26
    have q1 := c_27
    have q2 := c_28
    have q3 := c_29
    have q4 := c_30
    refine rt_k (k := 1) (pc' := 110) (L' := [some (.ref 23), some (.ref a), some (.int (nI 1)), some (.int (nI q.length)), some (.int (nI (4 * R.length + q.length)))]) (st' := [.ref a]) (h' := h_22) (fun _ => rfl) ?_
    refine rt_gf rfl c_27 rfl rfl ?_
    refine rt_k (k := 1) (pc' := 115) (L' := [some (.ref 23), some (.ref a), some (.int (nI 1)), some (.int (nI q.length)), some (.int (nI (4 * R.length + q.length)))]) (st' := [.int (nI (4 * R.length + q.length)), .ref ve]) (h' := h_22) (fun _ => rfl) ?_
    refine rt_aalN rfl c_29 rfl (by omega) (by decide) vup_s ?_
    refine rt_k (k := 1) (pc' := 121) (L' := [some (.ref 23), some (.ref a), some (.int (nI 1)), some (.int (nI q.length)), some (.int (nI (4 * R.length + q.length)))]) (st' := []) (h' := h_22) (fun _ => rfl) ?_
    have el : (q ++ [some ((sgn w).1, u)]).length = q.length + 1 := by rw [List.length_append]; rfl
    refine nxt (some ((sgn w).1, u)) h_22 ⟨by rw [F3.1]; exact G2.1, by rw [F3.1]; exact G2.2.1, by rw [F3.2.1]; exact G2.2.2.1, fun k hk hn => by rw [F3.2.2 k (by omega)]; exact G2.2.2.2 k hk hn⟩ q23 ⟨_, _, N, q1, q2, q3, q4, y5, by rw [el]; omega, fun c q' hc => ?_, fun j t ht => ?_, fun k hk => ?_⟩
    · obtain ⟨a1, a2, a3⟩ := y7.ew E13 c q' hc
      have lc := gt_lt hc
      refine ⟨a1, a2, fun j t ht => ?_⟩
      have lj := gt_lt ht
      have := a3 j t ht
      unfold upd va_up
      rw [if_neg (by omega), if_neg (by omega)]
      exact this
    · rcases gt_snoc ht with e | ⟨e, e9⟩
      · have lj := gt_lt e
        have := (y8 j t e).ew E13
        unfold upd va_up
        rw [if_neg (by omega), if_neg (by omega)]
        exact this
      · rw [e, e9]
        unfold upd va_up
        rw [if_pos rfl, if_pos rfl]
        exact ⟨rfl, sl1.2, b, rfl, (V.mo (by omega)).ew E3⟩
    · rw [el] at hk
      unfold upd va_up
      rw [if_neg (by omega), if_neg (by omega)]
      exact y9 k (by omega)
  have k23 := gr_at g2 b23 id
  have k1 := gr_at g2 b1 id
  have k3 := gr_at g2 b3 id
  have G2 := gr_mo (gr_tr G1 (gr_mo g2 (fun _ q => absurd q id) (Nat.le_refl _) (Nat.le_refl _))) (fun _ q => q) (show 4 + 19 * (i - i0) + 19 ≤ 4 + 19 * (ws.length - i0) by omega) (show 40 + 450 * (i - i0) + 450 ≤ 40 + 450 * (ws.length - i0) by omega)
  refine rt_aaO rfl k3 rfl (by omega) (by decide) ?_
  refine rt_nm (fun h_32 e_33 => ?_)
  have f_34 : fr_ (fun z => z = ve) h2 h_32 := by rw [e_33]; exact fr_set (e' := .inl (13, 16, .inr (.inr (.inr (.inr (va_up F (4 * R.length + q.length) none)))))) k3 (by rfl) (by first | decide | simp)
  have n_35 : h_32.length = h2.length := by rw [e_33]; simp
  have c_36 : h_32[23]? = some (.inr (12, [.ref 24, .int tl, .ref 25, .int (nI ws.length), .int (nI i), .ref 26, .int (o 0), .int (o 1), .ref 27, .ref 28, .int (o 2), .ref 29, .int (o 3), .int (o 4), .ref 30, .ref 31, .int (o 5), .ref 32, .int (o 6), .ref 33, .ref 34, .int (o 7), .int (o 8), .ref 35])) := by rw [e_33]; exact hs_ne k23 (hc_ne k3 k23 (by intro q; cases q))
  have c_37 : h_32[a]? = some (.inr (16, [.ref sg, .ref ve, .ref ts, .int (nI R.length)])) := by rw [e_33]; exact hs_ne k1 (hc_ne k3 k1 (by intro q; cases q))
  have c_38 : h_32[ve]? = some (.inl (13, 16, .inr (.inr (.inr (.inr (va_up F (4 * R.length + q.length) none)))))) := by rw [e_33]; exact hs_self k3
  have F3 := f_34
  have q23 := c_36
  rw [e1]
  refine rt_k (k := 1) (pc' := 110) (L' := [some (.ref 23), some (.ref a), some (.int (nI 1)), some (.int (nI q.length)), some (.int (nI (4 * R.length + q.length)))]) (st' := [.ref a]) (h' := h_32) (fun _ => rfl) ?_
  refine rt_gf rfl c_37 rfl rfl ?_
  refine rt_k (k := 1) (pc' := 115) (L' := [some (.ref 23), some (.ref a), some (.int (nI 1)), some (.int (nI q.length)), some (.int (nI (4 * R.length + q.length)))]) (st' := [.int (nI (4 * R.length + q.length)), .ref ve]) (h' := h_32) (fun _ => rfl) ?_
  refine rt_aalO rfl c_38 rfl (by omega) (by decide) vup_s ?_
  refine rt_k (k := 2) (pc' := 120) (L' := [some (.ref 23), some (.ref a), some (.int (nI 1)), some (.int (nI q.length)), some (.int (nI (4 * R.length + q.length)))]) (st' := [.null]) (h' := h_32) (fun _ => rfl) ?_
  exact rt_r (v := some (.null)) rfl rfl (Or.inr ⟨rfl, rfl, ⟨by rw [F3.1]; exact G2.1, by rw [F3.1]; exact G2.2.1, by rw [F3.2.1]; exact G2.2.2.1, fun k hk hn => by rw [F3.2.2 k (by omega)]; exact G2.2.2.2 k hk hn⟩, _, q23⟩)
termination_by ws.length - i
end MN

