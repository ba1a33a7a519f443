/-! THE REFERENCE, 6: the method that reads a version. -/
section MF
variable {X : Nat × (Nat → Int32)} {d : Nat} {h : List va_E} {Q : Option Value → List va_E → Prop} {w : kW} {o : Nat → Int32} {ws : List kW} {tl nw pa : Int32}
theorem mv_ini {a : Nat} (ca : h[a]? = some (.inr (15, [.null, .null, .int (nI 0)]))) : rt_ X d 136 0 [some (.ref a)] [] h (fun v h' => v = none ∧ gr (fun z => z = a) 2 7 h h' ∧ ∃ na ma N, h.length ≤ na ∧ na < ma ∧ yM h' a na ma N []) := by
  have hla := hc_lt ca
  refine rt_k (k := 4) (pc' := 6) (L' := [some (.ref a)]) (st' := [.int (nI 3), .ref a]) (h' := h) (fun _ => rfl) ?_
  refine rt_k (k := 1) (pc' := 8) (L' := [some (.ref a)]) (st' := [.ref h.length, .ref a]) (h' := (h ++ [.inl (2, 3, .inl (fun _ => 0))])) (fun _ => rfl) ?_
  refine rt_nm (fun h_1 e_2 => ?_)
  have g_3 : gr (fun z => z = a) 1 (3) h h_1 := by rw [e_2]; exact gr_mo (gr_tr (gr_rf (h := h)) (gr_app (.inl (2, 3, .inl (fun _ => 0))))) (fun _ q => q) (by first | exact Nat.le_refl _ | omega) (by first | exact Nat.le_refl _ | (simp only [ab_z]; omega))
  have n_4 : h_1.length = h.length + 1 := by rw [e_2]; simp
  have c_5 : h_1[a]? = some (.inr (15, [.null, .null, .int (nI 0)])) := by rw [e_2]; exact ha_old _ ca
  have c_6 : h_1[h.length]? = some (.inl (2, 3, .inl (fun _ => 0))) := by rw [e_2]; exact ha_new
  refine rt_pf rfl c_5 ⟨rfl, (show 0 < 3 by decide), rfl⟩ ?_
  refine rt_nm (fun h_7 e_8 => ?_)
  have g_9 : gr (fun z => z = a) 1 (3) h h_7 := by rw [e_8]; exact gr_mo (gr_tr g_3 (gr_fr (fr_set (e' := .inr (15, [.ref h.length, .null, .int (nI 0)])) c_5 (by rfl) (by first | decide | simp)))) (fun _ q => q) (by first | exact Nat.le_refl _ | omega) (by first | exact Nat.le_refl _ | (simp only [ab_z]; omega))
  have n_10 : h_7.length = h_1.length := by rw [e_8]; simp
  have c_11 : h_7[a]? = some (.inr (15, [.ref h.length, .null, .int (nI 0)])) := by rw [e_8]; exact hs_self c_5
  have c_12 : h_7[h.length]? = some (.inl (2, 3, .inl (fun _ => 0))) := by rw [e_8]; exact hs_ne c_6 (hc_ne c_5 c_6 (by intro q; cases q))
  refine rt_k (k := 2) (pc' := 13) (L' := [some (.ref a)]) (st' := [.int (nI 4), .ref a]) (h' := h_7) (fun _ => rfl) ?_
  refine rt_k (k := 1) (pc' := 16) (L' := [some (.ref a)]) (st' := [.ref h_7.length, .ref a]) (h' := (h_7 ++ [.inl (9, 4, .inr (.inr (.inr (.inr (fun _ => none)))))])) (fun _ => rfl) ?_
  refine rt_nm (fun h_13 e_14 => ?_)
  have g_15 : gr (fun z => z = a) 2 (7) h h_13 := by rw [e_14]; exact gr_mo (gr_tr g_9 (gr_app (.inl (9, 4, .inr (.inr (.inr (.inr (fun _ => none)))))))) (fun _ q => q) (by first | exact Nat.le_refl _ | omega) (by first | exact Nat.le_refl _ | (simp only [ab_z]; omega))
  have n_16 : h_13.length = h_7.length + 1 := by rw [e_14]; simp
  have c_17 : h_13[a]? = some (.inr (15, [.ref h.length, .null, .int (nI 0)])) := by rw [e_14]; exact ha_old _ c_11
  have c_18 : h_13[h.length]? = some (.inl (2, 3, .inl (fun _ => 0))) := by rw [e_14]; exact ha_old _ c_12
  have c_19 : h_13[h_7.length]? = some (.inl (9, 4, .inr (.inr (.inr (.inr (fun _ => none)))))) := by rw [e_14]; exact ha_new
  refine rt_pf rfl c_17 ⟨rfl, (show 1 < 3 by decide), rfl⟩ ?_
  refine rt_nm (fun h_20 e_21 => ?_)
  have g_22 : gr (fun z => z = a) 2 (7) h h_20 := by rw [e_21]; exact gr_mo (gr_tr g_15 (gr_fr (fr_set (e' := .inr (15, [.ref h.length, .ref h_7.length, .int (nI 0)])) c_17 (by rfl) (by first | decide | simp)))) (fun _ q => q) (by first | exact Nat.le_refl _ | omega) (by first | exact Nat.le_refl _ | (simp only [ab_z]; omega))
  have n_23 : h_20.length = h_13.length := by rw [e_21]; simp
  have c_24 : h_20[a]? = some (.inr (15, [.ref h.length, .ref h_7.length, .int (nI 0)])) := by rw [e_21]; exact hs_self c_17
  have c_25 : h_20[h.length]? = some (.inl (2, 3, .inl (fun _ => 0))) := by rw [e_21]; exact hs_ne c_18 (hc_ne c_17 c_18 (by intro q; cases q))
  have c_26 : h_20[h_7.length]? = some (.inl (9, 4, .inr (.inr (.inr (.inr (fun _ => none)))))) := by rw [e_21]; exact hs_ne c_19 (hc_ne c_17 c_19 (by intro q; cases q))
  exact rt_r (v := none) rfl rfl ⟨rfl, g_22, _, _, _, Nat.le_refl _, (by omega : h.length < h_7.length), c_24, c_25, _, c_26, Nat.zero_le _, fun i m hm => by cases hm⟩
theorem mv_dot {wa a q k p : Nat} {f : Int32} (S : sS h wa w) (hk : k < 2) (hq : q ≤ w.length) (kn : ¬ (q < w.length ∧ w.getD q 0 = 46) → Q (some .null) h) (ks : (q < w.length ∧ w.getD q 0 = 46) → rt_ X (d + 4) 135 13 [some (.ref wa), some (.int f), some (.ref a), some (.int (nI (q + 1))), some (.int (nI (k + 1))), some (.int (nI q))] [] h Q) : rt_ X (d + 4) 135 80 [some (.ref wa), some (.int f), some (.ref a), some (.int (nI p)), some (.int (nI k)), some (.int (nI q))] [] h Q := by
  obtain ⟨v, x, y, c1, hl, hb⟩ := S.at
  refine rt_k (k := 4) (pc' := 86) (L' := [some (.ref wa), some (.int f), some (.ref a), some (.int (nI q)), some (.int (nI k)), some (.int (nI q))]) (st' := [.int (nI 2), .int (nI k)]) (h' := h) (fun _ => rfl) ?_
  refine rt_ine rfl (by omega) (by decide) (fun _ => ?_) (fun z => absurd z (by omega))
  refine rt_k (k := 2) (pc' := 94) (L' := [some (.ref wa), some (.int f), some (.ref a), some (.int (nI q)), some (.int (nI k)), some (.int (nI q))]) (st' := [.ref wa, .int (nI q)]) (h' := h) (fun _ => rfl) ?_
  refine rt_cvE rfl (by decide) c1 rfl rfl rfl rfl (st_len S) ?_
  refine rt_ige rfl (by omega) (by omega) (fun z => ?_) (fun z => ?_)
  ·
    refine rt_k (k := 1) (pc' := 111) (L' := [some (.ref wa), some (.int f), some (.ref a), some (.int (nI q)), some (.int (nI k)), some (.int (nI q))]) (st' := [.null]) (h' := h) (fun _ => rfl) ?_
    exact rt_r (v := some (.null)) rfl rfl (kn (fun y => by omega))
  have b1 := getD_lt hb q
  refine rt_k (k := 2) (pc' := 102) (L' := [some (.ref wa), some (.int f), some (.ref a), some (.int (nI q)), some (.int (nI k)), some (.int (nI q))]) (st' := [.int (nI q), .ref wa]) (h' := h) (fun _ => rfl) ?_
  refine rt_cvE rfl (by decide) c1 rfl rfl rfl rfl (st_char S z) ?_
  refine rt_k (k := 1) (pc' := 107) (L' := [some (.ref wa), some (.int f), some (.ref a), some (.int (nI q)), some (.int (nI k)), some (.int (nI q))]) (st' := [.int (nI 46), .int (nI (w.getD q 0))]) (h' := h) (fun _ => rfl) ?_
  refine rt_ieq rfl (by omega) (by decide) (fun z1 => ?_) (fun z1 => ?_)
  rotate_left
  ·
    refine rt_k (k := 1) (pc' := 111) (L' := [some (.ref wa), some (.int f), some (.ref a), some (.int (nI q)), some (.int (nI k)), some (.int (nI q))]) (st' := [.null]) (h' := h) (fun _ => rfl) ?_
    exact rt_r (v := some (.null)) rfl rfl (kn (fun y => z1 y.2))
  refine rt_inc (c := 1) rfl rfl ?_
  refine rt_inc (c := 1) rfl rfl ?_
  refine rt_k (k := 1) (pc' := 13) (L' := [some (.ref wa), some (.int f), some (.ref a), some (.int (nI (q + 1))), some (.int (nI (k + 1))), some (.int (nI q))]) (st' := []) (h' := h) (fun _ => rfl) ?_
  exact ks ⟨z, z1⟩
theorem gr_lo {A : Nat → Prop} {c s c' s' : Nat} {h0 h1 : List va_E} (G : gr (fun _ => False) c s h0 h) (G2 : gr A c' s' h h1) (hA : ∀ k, A k → h0.length ≤ k) : gr (fun _ => False) (c + c') (s + s') h0 h1 := by
  refine ⟨Nat.le_trans G.1 G2.1, by have := G.2.1; have := G2.2.1; omega, by have := G.2.2.1; have := G2.2.2.1; omega, fun k hk _ => ?_⟩
  rw [G2.2.2.2 k (Nat.lt_of_lt_of_le hk G.1) (fun q => by have := hA k q; omega)]
  exact G.2.2.2 k hk id
theorem sS.na {A : Nat → Prop} {h' : List va_E} {c s wa na : Nat} {N : Nat → Int32} (S : sS h wa w) (hn : h[na]? = some (.inl (2, 3, .inl N))) (G : gr A c s h h') (hA : ∀ k, A k → k = na) : sS h' wa w := by
  obtain ⟨v9, x9, y9, ⟨z91, k91⟩, ⟨f9, ⟨z92, k92⟩, k93⟩, k94, k95⟩ := S
  have n1 : ¬ A wa := fun q => hc_ne k91 hn (by intro q; cases q) (hA _ q)
  have n2 : ¬ A v9 := fun q => hc_ne k92 hn (by intro q; cases q) (hA _ q)
  exact ⟨v9, x9, y9, ⟨z91, gr_at G k91 n1⟩, ⟨f9, ⟨z92, gr_at G k92 n2⟩, k93⟩, k94, k95⟩
theorem m_version {wa f : Nat} (h39 : 39 ≤ h.length) (S : sS h wa w) (hf : f ≤ w.length) : rt_ X (d + 6) 135 0 [some (.ref wa), some (.int (nI f)), none, none, none, none] [] h (mvP h (pVer (w.drop f))) := by
  obtain ⟨v, x, y, c1, hl, hb⟩ := id S.at
  have ef : w.drop f = sl w f w.length := (sl_all w f).symm
  rw [ef, pVer_mR, pV3_D]
  refine rt_k (k := 1) (pc' := 3) (L' := [some (.ref wa), some (.int (nI f)), none, none, none, none]) (st' := [.ref h.length]) (h' := (h ++ [.inr (15, [.null, .null, .int (nI 0)])])) (fun _ => rfl) ?_
  refine rt_nm (fun h_27 e_28 => ?_)
  have g_29 : gr (fun _ => False) 1 (3) h h_27 := by rw [e_28]; exact gr_mo (gr_tr (gr_rf (h := h)) (gr_app (.inr (15, [.null, .null, .int (nI 0)])))) (fun _ q => q) (by first | exact Nat.le_refl _ | omega) (by first | exact Nat.le_refl _ | (simp only [ab_z]; omega))
  have n_30 : h_27.length = h.length + 1 := by rw [e_28]; simp
  have c_31 : h_27[h.length]? = some (.inr (15, [.null, .null, .int (nI 0)])) := by rw [e_28]; exact ha_new
  refine rt_k (k := 1) (pc' := 4) (L' := [some (.ref wa), some (.int (nI f)), none, none, none, none]) (st' := [.ref h.length, .ref h.length]) (h' := h_27) (fun _ => rfl) ?_
  have g0 := g_29
  have c0 := c_31
  have l0 : h_27.length = h.length + 1 := by omega
  refine rt_c rfl rfl (mv_ini c0) ?_
  rintro _ h1 ⟨rfl, g1, na, ma, N, hna, hma, Y1⟩
  have l1 := g1.1
  have G1 : gr (fun _ => False) 3 10 h h1 := gr_mo (gr_lo g0 g1 (fun k q => by omega)) (fun _ q => q) (by omega) (by omega)
  have S1 := S.gf G1
  have hz : h.length ≤ h.length ∧ h.length < na ∧ na < ma := ⟨Nat.le_refl _, by omega, hma⟩
  refine rt_k (k := 5) (pc' := 13) (L' := [some (.ref wa), some (.int (nI f)), some (.ref h.length), some (.int (nI f)), some (.int (nI 0)), none]) (st' := []) (h' := h1) (fun _ => rfl) ?_
  refine mv_num (h0 := h) (d := d) (by omega) S1 Y1 (fun q => hc_ne S1.at.choose_spec.choose_spec.choose_spec.1 Y1.2.1 (by intro q; cases q) q) 0 f (by omega) hf (fun e q h2 q1 q2 g2 => ?_) (fun q n h2 e q1 q2 g2 Y2 => ?_)
  · rw [e]
    exact ⟨gr_mo (gr_lo G1 g2 (fun k q => by omega)) (fun _ q => q) (by omega) (by omega), Or.inr ⟨rfl, rfl⟩⟩
  have S2 := S1.na Y1.2.1 g2 (fun _ q => q)
  have G2 : gr (fun _ => False) 5 (14 + (q - f)) h h2 := gr_mo (gr_lo G1 g2 (fun k q => by omega)) (fun _ q => q) (by omega) (by omega)
  rw [e]
  simp only [Option.bind_some]
  refine mv_dot (d := d + 2) S2 (by omega) q2 (fun y => ?_) (fun y => ?_)
  · rw [pDN_n (Nat.le_refl _) y]
    exact ⟨gr_mo G2 (fun _ q => q) (by omega) (by omega), Or.inr ⟨rfl, rfl⟩⟩
  rw [pDN_s (Nat.le_refl _) y]
  have l2 := g2.1
  refine mv_num (h0 := h) (d := d) (by omega) S2 Y2 (fun q => hc_ne S2.at.choose_spec.choose_spec.choose_spec.1 Y2.2.1 (by intro q; cases q) q) 1 (q + 1) (by omega) y.1 (fun e r h3 r1 r2 g3 => ?_) (fun r n2 h3 e2 r1 r2 g3 Y3 => ?_)
  · rw [e]
    exact ⟨gr_mo (gr_lo G2 g3 (fun k q => by omega)) (fun _ q => q) (by omega) (by omega), Or.inr ⟨rfl, rfl⟩⟩
  have S3 := S2.na Y2.2.1 g3 (fun _ q => q)
  have G3 : gr (fun _ => False) 7 (18 + (r - f)) h h3 := gr_mo (gr_lo G2 g3 (fun k q => by omega)) (fun _ q => q) (by omega) (by omega)
  rw [e2]
  simp only [Option.bind_some]
  refine mv_dot (d := d + 2) S3 (by omega) r2 (fun y2 => ?_) (fun y2 => ?_)
  · rw [pDN_n (Nat.le_refl _) y2]
    exact ⟨gr_mo G3 (fun _ q => q) (by omega) (by omega), Or.inr ⟨rfl, rfl⟩⟩
  rw [pDN_s (Nat.le_refl _) y2]
  have l3 := g3.1
  refine mv_num (h0 := h) (d := d) (by omega) S3 Y3 (fun q => hc_ne S3.at.choose_spec.choose_spec.choose_spec.1 Y3.2.1 (by intro q; cases q) q) 2 (r + 1) (by omega) y2.1 (fun e r h4 t1 t2 g4 => ?_) (fun t n3 h4 e3 t1 t2 g4 Y4 => ?_)
  · rw [e]
    exact ⟨gr_mo (gr_lo G3 g4 (fun k q => by omega)) (fun _ q => q) (by omega) (by omega), Or.inr ⟨rfl, rfl⟩⟩
  have S4 := S3.na Y3.2.1 g4 (fun _ q => q)
  have G4 : gr (fun _ => False) 9 (22 + t) h h4 := gr_mo (gr_lo G3 g4 (fun k q => by omega)) (fun _ q => q) (by omega) (by omega)
  have hN : ∀ ms, yN (upd (upd (upd N 0 (nI n)) (0 + 1) (nI n2)) (0 + 1 + 1) (nI n3)) ((n, n2, n3), ms) := fun ms => ⟨rfl, rfl, rfl⟩
  have nb : ∀ (u : kW) (m : Nat) (r : kW), pNum 9 u = some (m, r) → m < 1000000000 := fun u m r e => by
    unfold pNum at e
    split at e
    · next q =>
      cases e
      unfold okN at q
      simp only [Bool.and_eq_true, decide_eq_true_eq] at q
      exact dv_b (tw_all u) q.1.2
    · cases e
  have W : wfV ((n, n2, n3), ([] : List kW)) := ⟨⟨nb _ _ _ e, nb _ _ _ e2, nb _ _ _ e3⟩, Nat.zero_le _, fun m hm => by cases hm⟩
  rw [e3]
  simp only [Option.map_some, Option.bind_some]
  obtain ⟨v4, x4, y4, c4, -, -⟩ := id S4.at
  refine rt_k (k := 8) (pc' := 123) (L' := [some (.ref wa), some (.int (nI f)), some (.ref h.length), some (.int (nI t)), some (.int (nI 2)), some (.int (nI t))]) (st' := [.ref wa, .int (nI t)]) (h' := h4) (fun _ => rfl) ?_
  refine rt_cvE rfl (by decide) c4 rfl rfl rfl rfl (st_len S4) ?_
  refine rt_ine rfl (by omega) (by omega) (fun z => ?_) (fun z => ?_)
  rotate_left
  ·
    have hzz := hz
    obtain ⟨k1, k2, F, k3, k4, k5⟩ := id Y4
    rw [sl_nil (by omega), mR_nil]
    refine rt_k (k := 1) (pc' := 130) (L' := [some (.ref wa), some (.int (nI f)), some (.ref h.length), some (.int (nI t)), some (.int (nI 2)), some (.int (nI t))]) (st' := [.ref h.length]) (h' := h4) (fun _ => rfl) ?_
    exact rt_r (v := some (.ref h.length)) rfl rfl (⟨gr_mo G4 (fun _ q => q) (by omega) (by omega), Or.inl ⟨((n, n2, n3), []), h.length, rfl, rfl, Nat.le_refl _, ⟨na, ma, _, F, ⟨by unfold zz; omega, k1⟩, ⟨by unfold zz; omega, k2⟩, ⟨by unfold zz; omega, k3⟩, hN [], k5, W⟩, na, ma, _, k1, by omega⟩⟩)
  have z' : t < w.length := by omega
  have b1 := getD_lt hb t
  refine rt_k (k := 2) (pc' := 133) (L' := [some (.ref wa), some (.int (nI f)), some (.ref h.length), some (.int (nI t)), some (.int (nI 2)), some (.int (nI t))]) (st' := [.int (nI t), .ref wa]) (h' := h4) (fun _ => rfl) ?_
  refine rt_cvE rfl (by decide) c4 rfl rfl rfl rfl (st_char S4 z') ?_
  refine rt_k (k := 1) (pc' := 138) (L' := [some (.ref wa), some (.int (nI f)), some (.ref h.length), some (.int (nI t)), some (.int (nI 2)), some (.int (nI t))]) (st' := [.int (nI 45), .int (nI (w.getD t 0))]) (h' := h4) (fun _ => rfl) ?_
  refine rt_ieq rfl (by omega) (by decide) (fun z2 => ?_) (fun z2 => ?_)
  ·
    exact mv_lp h39 hz hN 4 [] rfl t h4 G4 S4 t2 (Or.inr z2) Y4 W _ _
  rw [sl_cons z' (Nat.le_refl _), mR, if_neg (fun q => z2 (by have := q.1; rwa [if_pos rfl] at this))]
  refine rt_k (k := 1) (pc' := 142) (L' := [some (.ref wa), some (.int (nI f)), some (.ref h.length), some (.int (nI t)), some (.int (nI 2)), some (.int (nI t))]) (st' := [.null]) (h' := h4) (fun _ => rfl) ?_
  exact rt_r (v := some (.null)) rfl rfl (⟨gr_mo G4 (fun _ q => q) (by omega) (by omega), Or.inr ⟨rfl, rfl⟩⟩)
end MF

