/-! A TEST read, 2. -/
section TU
variable {X : Nat × (Nat → Int32)} {d : Nat} {h : List va_E} {Q : Option Value → List va_E → Prop} {T : List Nat} {f b p : Nat} {ws : List kW}
theorem pVer_nil : pVer [] = none := by decide
theorem rd_test (h39 : 39 ≤ h.length) (C : rC h T f b p) (W : rW T f b ws) : rt_ X (d + 5) 45 0 [some (.ref 3), none, none, none, none] [] h (tsP h T ws) := by
  obtain ⟨P, c, h1, h2, h3⟩ := id C
  have hT := P.2.2.1
  refine rt_k (k := 2) (pc' := 3) (L' := [some (.ref 3), none, none, none, none]) (st' := [.retAddr 3, .ref 3]) (h' := h) (fun _ => rfl) ?_
  refine rt_cvE rfl (by decide) c rfl rfl rfl rfl (rd_wi3 C) ?_
  refine rt_pe rfl (fun z => ?_) (fun z => ?_)
  rotate_left
  ·
    have hws : ∃ ws', ws = tx 3 :: ws' ∧ ws' = wl (T.drop b) := by
      rcases W with ⟨-, q1, -⟩ | ⟨ws', q1, -, -, q4, -⟩
      · rw [sl_nil (by omega)] at z; cases z
      · exact ⟨ws', by rw [q1, z], q4⟩
    obtain ⟨ws', hw1, hw2⟩ := hws
    refine rt_k (k := 1) (pc' := 10) (L' := [some (.ref 3), none, none, none, none]) (st' := [.ref 3]) (h' := h) (fun _ => rfl) ?_
    refine rt_cv rfl (by decide) c rfl rfl rfl rfl (rd_nx C) ?_
    rintro _ h1' ⟨rfl, f1, f', b', C1, W1⟩
    have l1 : h1'.length = h.length := f1.1
    refine rt_k (k := 1) (pc' := 16) (L' := [some (.ref 3), none, none, none, none]) (st' := [.ref h1'.length]) (h' := (h1' ++ [.inr (11, [.null, .int (nI 0), .null, .int (nI 0)])])) (fun _ => rfl) ?_
    refine rt_nm (fun h_1 e_2 => ?_)
    have g_3 : gr (fun _ => False) 1 (4) h1' h_1 := by rw [e_2]; exact gr_mo (gr_tr (gr_rf (h := h1')) (gr_app (.inr (11, [.null, .int (nI 0), .null, .int (nI 0)])))) (fun _ q => q) (by first | exact Nat.le_refl _ | omega) (by first | exact Nat.le_refl _ | (simp only [ab_z]; omega))
    have n_4 : h_1.length = h1'.length + 1 := by rw [e_2]; simp
    have c_5 : h_1[h1'.length]? = some (.inr (11, [.null, .int (nI 0), .null, .int (nI 0)])) := by rw [e_2]; exact ha_new
    refine rt_k (k := 5) (pc' := 21) (L' := [some (.ref 3), none, none, none, none]) (st' := [.int (nI 0), .null, .int (nI 0), .null, .ref h1'.length, .ref h1'.length]) (h' := h_1) (fun _ => rfl) ?_
    have gA := g_3
    have cA := c_5
    have lA : h_1.length = h1'.length + 1 := by omega
    refine rt_c rfl rfl (tst_nn (b1 := false) (b2 := false) cA) ?_
    rintro _ h4 ⟨rfl, f4, c4⟩
    have g4 : gr (fun _ => False) 1 4 h1' h4 := tst_fin (a := 0) (lo := .null) (hi := .null) (b1 := false) (b2 := false) lA gA f4
    rw [← hw2] at W1
    have G1 : rG h1' T ws' := ⟨f', b', p, C1, W1⟩
    exact rt_r (v := some (.ref h1'.length)) rfl rfl (⟨gr_mo (gr_tr (gr_fr f1) (gr_mo g4 (fun _ q => absurd q id) (Nat.le_refl _) (Nat.le_refl _))) (fun _ q => q) (by omega) (by omega), Or.inl ⟨tx 3, ws', none, h1'.length, hw1, by decide, rfl, by omega, ⟨none, none, ⟨by unfold zz; omega, c4⟩, trivial, trivial⟩, rG_gr G1 g4⟩⟩)
  have fin : ∀ (n sg : Nat), (∀ ws', ws = sl T f b :: ws' → sgn (sl T f b) = (sg, n)) → (f + n ≤ b) → (rt_ X (d + 5) 45 25 [some (.ref 3), none, none, none, none] [] h (fun v h' => gr r3 5 20 h h' ∧ ((∃ u a, pVer (sl T (f + n) b) = some u ∧ v = some (.ref a) ∧ h.length ≤ a ∧ zT h' a (some (sg, u)) ∧ rG h' T (wl (T.drop b))) ∨ (pVer (sl T (f + n) b) = none ∧ v = some .null ∧ rB h' T)))) → rt_ X (d + 5) 45 25 [some (.ref 3), none, none, none, none] [] h (tsP h T ws) := fun n sg hs hn k => by
    refine rt_w k ?_
    rintro v h' ⟨g, (⟨u, a, q1, q2, q3, q4, q5⟩ | ⟨q1, q2, q3⟩)⟩
    · rcases W with ⟨e1, e2, e3⟩ | ⟨ws', e1, e2, e3, e4, -⟩
      · rw [sl_nil (by omega), pVer_nil] at q1; cases q1
      · refine ⟨g, Or.inl ⟨_, ws', _, a, e1, ?_, q2, q3, q4, e4 ▸ q5⟩⟩
        unfold pTst
        rw [if_neg z, hs ws' e1]
        dsimp only
        rw [sl_drop, q1]
        rfl
    · refine ⟨g, Or.inr ⟨?_, q2, q3⟩⟩
      rintro ⟨w, ws', e, hw⟩
      rcases W with ⟨e1, e2, e3⟩ | ⟨ws'', e1, -⟩
      · rw [e1] at e; cases e
      · have ew : w = sl T f b := by rw [e1] at e; cases e; rfl
        rw [ew] at hw
        unfold pTst at hw
        rw [if_neg z, hs ws'' e1] at hw
        dsimp only at hw
        rw [sl_drop, q1] at hw
        cases hw
  have htc : f < b → tc T f = T.getD f 0 := fun q => by unfold tc; rw [if_pos (by omega)]
  have hsl : f < b → sl T f b = T.getD f 0 :: sl T (f + 1) b := fun q => sl_cons q h2
  rcases W with ⟨e1, e2, e3⟩ | ⟨ws', e1, e2, e3, e4, e5⟩
  · have ht : tc T f = 32 := by unfold tc; rw [if_neg (by omega)]
    exact fin 0 1 (fun ws' q => by rw [e1] at q; cases q) (by omega) (rtt_j h39 C (by omega) (by omega))
  · have hh := htc e2
    have hs := hsl e2
    have hd : (sl T (f + 1) b).head? = some 61 ↔ tc T (f + 1) = 61 := by
      by_cases q : f + 1 < b
      · rw [sl_cons q h2, List.head?_cons]
        unfold tc
        rw [if_pos (by omega)]
        exact ⟨fun w => Option.some.inj w, fun w => congrArg some w⟩
      · rw [sl_nil (by omega)]
        refine ⟨fun w => (by cases w), fun w => ?_⟩
        have : tc T (f + 1) = 32 := by
          unfold tc
          rcases e5 with e5 | e5
          · rw [if_neg (by omega)]
          · by_cases y : f + 1 < T.length
            · rw [if_pos y, show f + 1 = b by omega]; exact e5
            · rw [if_neg y]
        omega
    have hb1 : tc T (f + 1) = 61 → f + 2 ≤ b := fun w => by
      by_cases q : f + 1 < b
      · omega
      · rw [sl_nil (by omega)] at hd
        exact absurd (hd.mpr w) (by intro y; cases y)
    by_cases c60 : tc T f = 60
    · by_cases o : tc T (f + 1) = 61
      · exact fin 2 3 (fun _ _ => by rw [hs, ← hh, c60, sgn_60, if_pos (hd.mpr o)]) (hb1 o) (rtt_a h39 C (hb1 o) c60 o)
      · exact fin 1 2 (fun _ _ => by rw [hs, ← hh, c60, sgn_60, if_neg (fun w => o (hd.mp w))]) (by omega) (rtt_b h39 C (by omega) c60 o)
    by_cases c62 : tc T f = 62
    · by_cases o : tc T (f + 1) = 61
      · exact fin 2 5 (fun _ _ => by rw [hs, ← hh, c62, sgn_62, if_pos (hd.mpr o)]) (hb1 o) (rtt_c h39 C (hb1 o) c62 o)
      · exact fin 1 4 (fun _ _ => by rw [hs, ← hh, c62, sgn_62, if_neg (fun w => o (hd.mp w))]) (by omega) (rtt_d h39 C (by omega) c62 o)
    by_cases c61 : tc T f = 61
    · exact fin 1 1 (fun _ _ => by rw [hs, ← hh, c61, sgn_61]) (by omega) (rtt_e h39 C (by omega) c61)
    by_cases c94 : tc T f = 94
    · exact fin 1 6 (fun _ _ => by rw [hs, ← hh, c94, sgn_94]) (by omega) (rtt_g h39 C (by omega) c94)
    by_cases c126 : tc T f = 126
    · exact fin 1 7 (fun _ _ => by rw [hs, ← hh, c126, sgn_126]) (by omega) (rtt_i h39 C (by omega) c126)
    exact fin 0 1 (fun _ _ => by rw [hs, ← hh, sgn_o _ _ ⟨c60, c62, c94, c126, c61⟩]) (by omega) (rtt_j h39 C (by omega) ⟨c60, c62, c94, c126, c61⟩)
end TU

