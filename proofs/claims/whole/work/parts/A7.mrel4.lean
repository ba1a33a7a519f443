/-! THE REFERENCE, 18: the method that reads a release. -/
section MS
variable {X : Nat × (Nat → Int32)} {d : Nat} {h : List va_E} {Q : Option Value → List va_E → Prop} {o : Nat → Int32} {ws : List kW} {nw pa : Int32} {T : List Nat}
def mzP (h0 : List va_E) (T : List Nat) (o : Nat → Int32) (v : Option Value) (h' : List va_E) : Prop := gr mA (2 * T.length + 30 + 19 * (wl T).length) (5 * T.length + 530 + 450 * (wl T).length) h0 h' ∧ mW h' [] ∧ (∃ nw' pa', h'[23]? = some (mo (nI 0) nw' pa' o)) ∧ ((∃ r l a nd nr bk br ow, pRel 0 (wl T) = some r ∧ v = some (.ref a) ∧ h0.length ≤ a ∧ yAd a nd nr bk br ow l ∧ l ≤ h'.length ∧ yQ l h' a nd nr bk br ow r) ∨ (pRel 0 (wl T) = none ∧ v = some .null))
theorem mW.nil {h : List va_E} {ws : List kW} (C : mW h ws) : mW h [] := by
  obtain ⟨F, a, b, c⟩ := C
  exact ⟨F, a, Nat.zero_le _, fun i w hw => by simp at hw⟩
theorem m_readRelease {g : Nat → Int32} (h39 : 39 ≤ h.length) (c23 : h[23]? = some (mo (nI T.length) nw pa o)) (c24 : h[24]? = some (.inl (0, 400, .inl g))) (hg : ∀ j, j < T.length → g j = nI (T.getD j 0)) (hT : T.length ≤ 400 ∧ ∀ c ∈ T, c < 256) (W : mW h []) : rt_ X (d + 9) 131 0 [some (.ref 23), none, none, none, none, none] [] h (mzP h T o) := by
  refine rt_k (k := 1) (pc' := 1) (L' := [some (.ref 23), none, none, none, none, none]) (st' := [.ref 23]) (h' := h) (fun _ => rfl) ?_
  refine rt_cv rfl (by decide) c23 rfl rfl rfl rfl (m_readWords h39 c23 c24 hg hT W) ?_
  rintro _ h1 ⟨rfl, g1, d23, W1⟩
  generalize ews : wl T = ws at *
  have l1 := g1.1
  obtain ⟨F25, d25, hw4, HF⟩ := id W1
  have nul : ∀ h' c s p', gr (fun z => z = 23) c s h1 h' → c ≤ 30 + 19 * ws.length → s ≤ 530 + 450 * ws.length → h'[23]? = some (mo (nI 0) (nI ws.length) p' o) → pRel 0 ws = none → mzP h T o (some .null) h' := fun h' c s p' g hc hs e q => by
    unfold mzP
    rw [ews]
    exact ⟨gr_mo (gr_tr g1 (gr_mo g (fun _ q => Or.inl q) (Nat.le_refl _) (Nat.le_refl _))) (fun _ q => q) (by omega) (by omega), (W1.g g).nil, ⟨_, _, e⟩, Or.inr ⟨q, rfl⟩⟩
  refine rt_k (k := 1) (pc' := 7) (L' := [some (.ref 23), none, none, none, none, none]) (st' := [.ref h1.length]) (h' := (h1 ++ [.inr (14, [.int (nI 0), .null, .null, .null, .null, .int (nI 0), .null, .null, .int (nI 0), .null, .int (nI 0)])])) (fun _ => rfl) ?_
  refine rt_nm (fun h_1 e_2 => ?_)
  have g_3 : gr (fun z => z = 23) 1 (11) h1 h_1 := by rw [e_2]; exact gr_mo (gr_tr (gr_rf (h := h1)) (gr_app (.inr (14, [.int (nI 0), .null, .null, .null, .null, .int (nI 0), .null, .null, .int (nI 0), .null, .int (nI 0)])))) (fun _ q => q) (by first | exact Nat.le_refl _ | omega) (by first | exact Nat.le_refl _ | (simp only [ab_z]; omega))
  have n_4 : h_1.length = h1.length + 1 := by rw [e_2]; simp
  have c_5 : h_1[23]? = some (.inr (12, [.ref 24, .int (nI 0), .ref 25, .int (nI ws.length), .int (nI 0), .ref 26, .int (o 0), .int (o 1), .ref 27, .ref 28, .int (o 2), .ref 29, .int (o 3), .int (o 4), .ref 30, .ref 31, .int (o 5), .ref 32, .int (o 6), .ref 33, .ref 34, .int (o 7), .int (o 8), .ref 35])) := by rw [e_2]; exact ha_old _ d23
  have c_6 : h_1[h1.length]? = some (.inr (14, [.int (nI 0), .null, .null, .null, .null, .int (nI 0), .null, .null, .int (nI 0), .null, .int (nI 0)])) := by rw [e_2]; exact ha_new
  refine rt_k (k := 1) (pc' := 8) (L' := [some (.ref 23), none, none, none, none, none]) (st' := [.ref h1.length, .ref h1.length]) (h' := h_1) (fun _ => rfl) ?_
  have g2 := g_3
  have c2 := c_6
  have b23 := c_5
  have l2 : h_1.length = h1.length + 1 := by omega
  refine rt_c rfl rfl (ml_ini c2) ?_
  rintro _ h2 ⟨rfl, g3, nd, nr, bk, br, ow, NF, RF, BF, QF, OF, ⟨u1, u2, u3, u4, u5, u6⟩, q1, q2, q3, q4, q5, q6⟩
  have l3 := g3.1
  have G2 : gr (fun z => z = 23) 6 33 h1 h2 := ⟨by omega, by have := g2.2.1; have := g3.2.1; omega, by have := g2.2.2.1; have := g3.2.2.1; omega, fun k hk hn => by rw [g3.2.2.2 k (by omega) (by omega)]; exact g2.2.2.2 k hk hn⟩
  have e23 := gr_at g3 b23 (by omega)
  have W2 := W1.g G2
  obtain ⟨F2, e25, -, HF2⟩ := id W2
  refine rt_k (k := 2) (pc' := 13) (L' := [some (.ref 23), some (.ref h1.length), none, none, none, none]) (st' := [.ref 23]) (h' := h2) (fun _ => rfl) ?_
  refine rt_gf rfl e23 rfl rfl ?_
  refine rt_k (k := 1) (pc' := 17) (L' := [some (.ref 23), some (.ref h1.length), none, none, none, none]) (st' := [.int (nI 2), .int (nI ws.length)]) (h' := h2) (fun _ => rfl) ?_
  refine rt_ilt rfl (by omega) (by decide) (fun z => ?_) (fun z => ?_)
  ·
    have e0 : pRel 0 ws = none := by
      match ws, z with
      | [], _ => rfl
      | [w], _ => rfl
      | w :: v :: us, z => simp at z; omega
    refine rt_k (k := 1) (pc' := 33) (L' := [some (.ref 23), some (.ref h1.length), none, none, none, none]) (st' := [.null]) (h' := h2) (fun _ => rfl) ?_
    exact rt_r (v := some (.null)) rfl rfl (nul h2 _ _ _ G2 (by omega) (by omega) e23 e0)
  obtain ⟨w, v, us, rfl⟩ : ∃ w v us, ws = w :: v :: us := by
    match ws, z with
    | [], z => simp at z
    | [w], z => simp at z
    | w :: v :: us, _ => exact ⟨w, v, us, rfl⟩
  obtain ⟨wa, fw, Sw⟩ := HF2 0 w rfl
  obtain ⟨va, fv, Sv⟩ := HF2 1 v rfl
  obtain ⟨wv, wx, wy, wc, -, -⟩ := Sw.at
  refine rt_k (k := 1) (pc' := 21) (L' := [some (.ref 23), some (.ref h1.length), none, none, none, none]) (st' := [.ref 23]) (h' := h2) (fun _ => rfl) ?_
  refine rt_gf rfl e23 rfl rfl ?_
  refine rt_k (k := 1) (pc' := 25) (L' := [some (.ref 23), some (.ref h1.length), none, none, none, none]) (st' := [.int (nI 0), .ref 25]) (h' := h2) (fun _ => rfl) ?_
  refine rt_aalN rfl e25 rfl (by omega) (by decide) fw ?_
  refine rt_cE rfl rfl (m_isName Sw) ?_
  refine rt_pn rfl (fun z1 => ?_) (fun z1 => ?_)
  rotate_left
  ·
    refine rt_k (k := 1) (pc' := 33) (L' := [some (.ref 23), some (.ref h1.length), none, none, none, none]) (st' := [.null]) (h' := h2) (fun _ => rfl) ?_
    exact rt_r (v := some (.null)) rfl rfl (nul h2 _ _ _ G2 (by omega) (by omega) e23 (by rw [pRel, if_neg z1]))
  refine rt_k (k := 2) (pc' := 36) (L' := [some (.ref 23), some (.ref h1.length), none, none, none, none]) (st' := [.ref 23, .ref h1.length]) (h' := h2) (fun _ => rfl) ?_
  refine rt_gf rfl e23 rfl rfl ?_
  refine rt_k (k := 1) (pc' := 40) (L' := [some (.ref 23), some (.ref h1.length), none, none, none, none]) (st' := [.int (nI 0), .ref 25, .ref h1.length]) (h' := h2) (fun _ => rfl) ?_
  refine rt_aalN rfl e25 rfl (by omega) (by decide) fw ?_
  refine rt_pf rfl q1 ⟨rfl, (show 1 < 11 by decide), rfl⟩ ?_
  refine rt_nm (fun h_7 e_8 => ?_)
  have f_9 : fr_ (fun z => z = h1.length) h2 h_7 := by rw [e_8]; exact fr_set (e' := .inr (14, [.int (nI 0), .ref wa, .null, .ref nd, .ref nr, .int (nI 0), .ref bk, .ref br, .int (nI 0), .ref ow, .int (nI 0)])) q1 (by rfl) (by first | decide | simp)
  have n_10 : h_7.length = h2.length := by rw [e_8]; simp
  have c_11 : h_7[23]? = some (.inr (12, [.ref 24, .int (nI 0), .ref 25, .int (nI (us.length + 2)), .int (nI 0), .ref 26, .int (o 0), .int (o 1), .ref 27, .ref 28, .int (o 2), .ref 29, .int (o 3), .int (o 4), .ref 30, .ref 31, .int (o 5), .ref 32, .int (o 6), .ref 33, .ref 34, .int (o 7), .int (o 8), .ref 35])) := by rw [e_8]; exact hs_ne e23 (hc_ne q1 e23 (by intro q; cases q))
  have c_12 : h_7[25]? = some (.inl (9, 400, .inr (.inr (.inr (.inr F2))))) := by rw [e_8]; exact hs_ne e25 (hc_ne q1 e25 (by intro q; cases q))
  have c_13 : h_7[h1.length]? = some (.inr (14, [.int (nI 0), .ref wa, .null, .ref nd, .ref nr, .int (nI 0), .ref bk, .ref br, .int (nI 0), .ref ow, .int (nI 0)])) := by rw [e_8]; exact hs_self q1
  have c_14 : h_7[wa]? = some (.inr (17, [.ref wv, .int (nI 0), .int wx, .int wy])) := by rw [e_8]; exact hs_ne wc (hc_ne q1 wc (by intro q; cases q))
  refine rt_k (k := 2) (pc' := 46) (L' := [some (.ref 23), some (.ref h1.length), none, none, none, none]) (st' := [.ref 23, .ref h1.length]) (h' := h_7) (fun _ => rfl) ?_
  refine rt_gf rfl c_11 rfl rfl ?_
  refine rt_k (k := 1) (pc' := 50) (L' := [some (.ref 23), some (.ref h1.length), none, none, none, none]) (st' := [.int (nI 1), .ref 25, .ref h1.length]) (h' := h_7) (fun _ => rfl) ?_
  have F3 := f_9
  have f23 := c_11
  have f25 := c_12
  have fa := c_13
  have E3 : eW (okL h_7.length) h2 h_7 := ew_fr F3 (fun k hk => by rw [hk]; exact Or.inr ⟨_, q1, by unfold okL; simp⟩)
  have Sw3 := Sw.ew (E3.mo okV_L)
  have Sv3 := Sv.ew (E3.mo okV_L)
  have l4 : h_7.length = h2.length := F3.1
  have G3 : gr (fun z => z = 23) 6 33 h1 h_7 := ⟨by rw [F3.1]; exact G2.1, by rw [F3.1]; exact G2.2.1, by rw [F3.2.1]; exact G2.2.2.1, fun k hk hn => by rw [F3.2.2 k (by omega)]; exact G2.2.2.2 k hk hn⟩
  have q2' := fr_at F3 (show ¬ nd = h1.length by omega) q2
  have q3' := fr_at F3 (show ¬ nr = h1.length by omega) q3
  have q4' := fr_at F3 (show ¬ bk = h1.length by omega) q4
  have q5' := fr_at F3 (show ¬ br = h1.length by omega) q5
  have q6' := fr_at F3 (show ¬ ow = h1.length by omega) q6
  generalize h_7 = h3 at *
  refine rt_aalN rfl f25 rfl (by omega) (by decide) fv ?_
  refine rt_k (k := 1) (pc' := 52) (L' := [some (.ref 23), some (.ref h1.length), none, none, none, none]) (st' := [.int (nI 0), .ref va, .ref h1.length]) (h' := h3) (fun _ => rfl) ?_
  refine rt_c rfl rfl (m_version (f := 0) (by omega) Sv3 (Nat.zero_le _)) ?_
  rintro _ h4 ⟨g4, (⟨u, b, e1, rfl, lb, V⟩ | ⟨e1, rfl⟩)⟩
  ·
    rw [List.drop_zero] at e1
    have l5 := g4.1
    have G4 : gr (fun z => z = 23) 25 483 h1 h4 := gr_mo (gr_tr G3 (gr_mo g4 (fun _ q => absurd q id) (Nat.le_refl _) (Nat.le_refl _))) (fun _ q => q) (by omega) (by omega)
    have k23 := gr_at g4 f23 id
    have ka := gr_at g4 fa id
    have k2 := gr_at g4 q2' id
    have k3 := gr_at g4 q3' id
    have k4 := gr_at g4 q4' id
    have k5 := gr_at g4 q5' id
    have k6 := gr_at g4 q6' id
    have Sw4 := Sw3.gf g4
    have V' : yVl h3.length h4 b u := V
    have V9 := V.1
    obtain ⟨vna, vma, vN, vF, ⟨-, vc1⟩, -⟩ := V9
    refine rt_pf rfl ka ⟨rfl, (show 2 < 11 by decide), rfl⟩ ?_
    refine rt_nm (fun h_15 e_16 => ?_)
    have f_17 : fr_ (fun z => z = 23 ∨ z = h1.length) h4 h_15 := by rw [e_16]; exact fr_set (e' := .inr (14, [.int (nI 0), .ref wa, .ref b, .ref nd, .ref nr, .int (nI 0), .ref bk, .ref br, .int (nI 0), .ref ow, .int (nI 0)])) ka (by rfl) (by first | decide | simp)
    have n_18 : h_15.length = h4.length := by rw [e_16]; simp
    have c_19 : h_15[23]? = some (.inr (12, [.ref 24, .int (nI 0), .ref 25, .int (nI (us.length + 2)), .int (nI 0), .ref 26, .int (o 0), .int (o 1), .ref 27, .ref 28, .int (o 2), .ref 29, .int (o 3), .int (o 4), .ref 30, .ref 31, .int (o 5), .ref 32, .int (o 6), .ref 33, .ref 34, .int (o 7), .int (o 8), .ref 35])) := by rw [e_16]; exact hs_ne k23 (hc_ne ka k23 (by intro q; cases q))
    have c_20 : h_15[h1.length]? = some (.inr (14, [.int (nI 0), .ref wa, .ref b, .ref nd, .ref nr, .int (nI 0), .ref bk, .ref br, .int (nI 0), .ref ow, .int (nI 0)])) := by rw [e_16]; exact hs_self ka
    have c_21 : h_15[b]? = some (.inr (15, [.ref vna, .ref vma, .int (nI u.2.length)])) := by rw [e_16]; exact hs_ne vc1 (hc_ne ka vc1 (by intro q; cases q))
    refine rt_k (k := 1) (pc' := 59) (L' := [some (.ref 23), some (.ref h1.length), none, none, none, none]) (st' := [.ref h1.length]) (h' := h_15) (fun _ => rfl) ?_
    refine rt_gf rfl c_20 rfl rfl ?_
    refine rt_k (k := 3) (pc' := 69) (L' := [some (.ref 23), some (.ref h1.length), none, none, none, none]) (st' := [.int (nI 2), .ref 23]) (h' := h_15) (fun _ => rfl) ?_
    refine rt_pf rfl c_19 ⟨rfl, (show 4 < 24 by decide), rfl⟩ ?_
    refine rt_nm (fun h_22 e_23 => ?_)
    have f_24 : fr_ (fun z => z = 23 ∨ z = h1.length) h4 h_22 := by rw [e_23]; exact fr_tr f_17 (fr_set (e' := .inr (12, [.ref 24, .int (nI 0), .ref 25, .int (nI (us.length + 2)), .int (nI 2), .ref 26, .int (o 0), .int (o 1), .ref 27, .ref 28, .int (o 2), .ref 29, .int (o 3), .int (o 4), .ref 30, .ref 31, .int (o 5), .ref 32, .int (o 6), .ref 33, .ref 34, .int (o 7), .int (o 8), .ref 35])) c_19 (by rfl) (by first | decide | simp))
    have n_25 : h_22.length = h_15.length := by rw [e_23]; simp
    have c_26 : h_22[23]? = some (.inr (12, [.ref 24, .int (nI 0), .ref 25, .int (nI (us.length + 2)), .int (nI 2), .ref 26, .int (o 0), .int (o 1), .ref 27, .ref 28, .int (o 2), .ref 29, .int (o 3), .int (o 4), .ref 30, .ref 31, .int (o 5), .ref 32, .int (o 6), .ref 33, .ref 34, .int (o 7), .int (o 8), .ref 35])) := by rw [e_23]; exact hs_self c_19
    have c_27 : h_22[h1.length]? = some (.inr (14, [.int (nI 0), .ref wa, .ref b, .ref nd, .ref nr, .int (nI 0), .ref bk, .ref br, .int (nI 0), .ref ow, .int (nI 0)])) := by rw [e_23]; exact hs_ne c_20 (hc_ne c_19 c_20 (by intro q; cases q))
    have c_28 : h_22[b]? = some (.inr (15, [.ref vna, .ref vma, .int (nI u.2.length)])) := by rw [e_23]; exact hs_ne c_21 (hc_ne c_19 c_21 (by intro q; cases q))
    have F5 := f_24
    have m23 := c_26
    have ma := c_27
    have E5 : eW (okL h3.length) h4 h_22 := ew_yq F5 ⟨ka, k2, k3, k4, k5, k6⟩ (by omega) (fun k hk => by rcases hk with e | e <;> rw [e] <;> simp)
    have ne : ∀ k, h1.length < k → ¬ (k = 23 ∨ k = h1.length) := fun k hk => by omega
    have G5 : gr (fun z => z = 23) 25 483 h1 h_22 := ⟨by rw [F5.1]; exact G4.1, by rw [F5.1]; exact G4.2.1, by rw [F5.2.1]; exact G4.2.2.1, fun k hk hn => by rw [F5.2.2 k (by omega)]; exact G4.2.2.2 k hk hn⟩
    have Y5 : yQ h3.length h_22 h1.length nd nr bk br ow (0, w, u, [], [], []) := ⟨wa, b, NF, RF, BF, QF, OF, ⟨ma, fr_at F5 (ne _ (by omega)) k2, fr_at F5 (ne _ (by omega)) k3, fr_at F5 (ne _ (by omega)) k4, fr_at F5 (ne _ (by omega)) k5, fr_at F5 (ne _ (by omega)) k6⟩, ⟨Nat.zero_le _, Nat.zero_le _, Nat.zero_le _⟩, Sw4.ew (E5.mo okV_L), V'.ew (E5.mo okV_L), fun i e he => (by simp [lNe] at he), fun i e he => (by simp [lBr] at he), fun i e he => (by simp [lOw] at he)⟩
    have := ml_lp (X := X) (d := d + 1) (tl := nI 0) (o := o) (ws := w :: v :: us) (c0 := 25) (s0 := 483) (by omega) W1 (show yAd h1.length nd nr bk br ow h3.length from ⟨by omega, by omega, u2, u3, u4, u5, by omega⟩) (Nat.le_refl _) 2 h_22 (0, w, u, [], [], []) 13 rfl (Nat.le_refl _) (by simp) G5 (by rw [F5.1]; omega) m23 Y5 none none none none
    refine rt_w this ?_
    rintro v' h9 ⟨g9, ⟨p9, c9⟩, r9⟩
    unfold mzP
    rw [ews]
    have ep : pRel 0 (w :: v :: us) = (pCl 13 us [] [] []).map (fun q => (0, w, u, q.1, q.2.1, q.2.2)) := by rw [pRel, if_pos z1, e1]
    rw [ep]
    refine ⟨gr_mo (gr_tr g1 (gr_mo g9 (fun _ q => Or.inl q) (Nat.le_refl _) (Nat.le_refl _))) (fun _ q => q) (by omega) (by omega), (W1.g g9).nil, ⟨_, _, c9⟩, ?_⟩
    rcases r9 with ⟨r, x1, x2, x3, x4⟩ | ⟨x1, x2⟩
    · exact Or.inl ⟨r, h3.length, h1.length, nd, nr, bk, br, ow, x1, x2, by omega, ⟨by omega, by omega, u2, u3, u4, u5, by omega⟩, x3, x4⟩
    · exact Or.inr ⟨x1, x2⟩
  rw [List.drop_zero] at e1
  have k23 := gr_at g4 f23 id
  have ka := gr_at g4 fa id
  have G4 : gr (fun z => z = 23) 25 483 h1 h4 := gr_mo (gr_tr G3 (gr_mo g4 (fun _ q => absurd q id) (Nat.le_refl _) (Nat.le_refl _))) (fun _ q => q) (by omega) (by omega)
  refine rt_pf rfl ka ⟨rfl, (show 2 < 11 by decide), rfl⟩ ?_
  refine rt_nm (fun h_29 e_30 => ?_)
  have f_31 : fr_ (fun z => z = h1.length) h4 h_29 := by rw [e_30]; exact fr_set (e' := .inr (14, [.int (nI 0), .ref wa, .null, .ref nd, .ref nr, .int (nI 0), .ref bk, .ref br, .int (nI 0), .ref ow, .int (nI 0)])) ka (by rfl) (by first | decide | simp)
  have n_32 : h_29.length = h4.length := by rw [e_30]; simp
  have c_33 : h_29[23]? = some (.inr (12, [.ref 24, .int (nI 0), .ref 25, .int (nI (us.length + 2)), .int (nI 0), .ref 26, .int (o 0), .int (o 1), .ref 27, .ref 28, .int (o 2), .ref 29, .int (o 3), .int (o 4), .ref 30, .ref 31, .int (o 5), .ref 32, .int (o 6), .ref 33, .ref 34, .int (o 7), .int (o 8), .ref 35])) := by rw [e_30]; exact hs_ne k23 (hc_ne ka k23 (by intro q; cases q))
  have c_34 : h_29[h1.length]? = some (.inr (14, [.int (nI 0), .ref wa, .null, .ref nd, .ref nr, .int (nI 0), .ref bk, .ref br, .int (nI 0), .ref ow, .int (nI 0)])) := by rw [e_30]; exact hs_self ka
  refine rt_k (k := 1) (pc' := 59) (L' := [some (.ref 23), some (.ref h1.length), none, none, none, none]) (st' := [.ref h1.length]) (h' := h_29) (fun _ => rfl) ?_
  refine rt_gf rfl c_34 rfl rfl ?_
  refine rt_k (k := 1) (pc' := 65) (L' := [some (.ref 23), some (.ref h1.length), none, none, none, none]) (st' := []) (h' := h_29) (fun _ => rfl) ?_
  have F5 := f_31
  refine rt_k (k := 1) (pc' := 66) (L' := [some (.ref 23), some (.ref h1.length), none, none, none, none]) (st' := [.null]) (h' := h_29) (fun _ => rfl) ?_
  exact rt_r (v := some (.null)) rfl rfl (nul h_29 25 483 _ ⟨by rw [F5.1]; exact G4.1, by rw [F5.1]; exact G4.2.1, by rw [F5.2.1]; exact G4.2.2.1, fun k hk hn => by rw [F5.2.2 k (by omega)]; exact G4.2.2.2 k hk hn⟩ (by omega) (by omega) c_33 (by rw [pRel, if_pos z1, e1]))
end MS

