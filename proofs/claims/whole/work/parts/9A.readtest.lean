/-! A TEST read. -/
def tc (T : List Nat) (i : Nat) : Nat := if i < T.length then T.getD i 0 else 32
section TT
variable {X : Nat × (Nat → Int32)} {d : Nat} {h : List va_E} {Q : Option Value → List va_E → Prop} {T : List Nat} {f b p : Nat} {ws : List kW}
theorem tp_atc (P : tp_ h 1 2 T) {i : Nat} (hi : i ≤ 1000) : rt_ X d 22 0 [some (.ref 1), some (.int (nI i))] [] h (fun v h' => v = some (.int (nI (tc T i))) ∧ h' = h) := by
  have q := tp_at (X := X) (d := d) P (nI i)
  have e : tp_c T (nI i) = tc T i := by
    unfold tc
    by_cases z : i < T.length
    · rw [if_pos z]; exact tp_cN z P.2.2.1
    · rw [if_neg z]
      unfold tp_c
      rw [nI_toInt (by omega), if_neg (by omega)]
  rw [e] at q
  exact q
theorem tc_lt (P : tp_ h 1 2 T) (i : Nat) : tc T i < 256 := by
  unfold tc
  split
  · exact tp_lt P i
  · decide
def tsP (h : List va_E) (T : List Nat) (ws : List kW) (v : Option Value) (h' : List va_E) : Prop := gr r3 5 20 h h' ∧ ((∃ w ws' t a, ws = w :: ws' ∧ pTst w = some t ∧ v = some (.ref a) ∧ h.length ≤ a ∧ zT h' a t ∧ rG h' T ws') ∨ (¬ nxW ws (fun w => (pTst w).isSome = true) ∧ v = some .null ∧ rB h' T))
theorem rC_gr {h' : List va_E} {c s : Nat} (C : rC h T f b p) (h39 : 39 ≤ h.length) (G : gr (fun _ => False) c s h h') : rC h' T f b p := by
  obtain ⟨⟨u1, ⟨gg, u2, u3⟩, u4, u5⟩, u6, u7⟩ := C
  exact ⟨⟨gr_at G u1 id, ⟨gg, gr_at G u2 id, u3⟩, u4, u5⟩, gr_at G u6 id, u7⟩
theorem rG_gr {h' : List va_E} {c s : Nat} (C : rG h T ws) (G : gr (fun _ => False) c s h h') : rG h' T ws := by
  obtain ⟨f', b', p', ⟨⟨u1, ⟨gg, u2, u3⟩, u4, u5⟩, u6, u7⟩, w⟩ := C
  exact ⟨f', b', p', ⟨⟨gr_at G u1 id, ⟨gg, gr_at G u2 id, u3⟩, u4, u5⟩, gr_at G u6 id, u7⟩, w⟩
/-- a Test that has just been made -/
theorem tst_fin {h h1 h2 : List va_E} {a : Nat} {lo hi : Value} {b1 b2 : Bool} (l1 : h1.length = h.length + 1) (g1 : gr (fun _ => False) 1 4 h h1) (f2 : fr_ (fun z => z = h.length) h1 h2) : gr (fun _ => False) 1 4 h h2 := by
  refine ⟨by rw [f2.1]; exact g1.1, by rw [f2.1]; exact g1.2.1, by rw [f2.2.1]; exact g1.2.2.1, fun k hk _ => ?_⟩
  rw [f2.2.2 k (by omega)]
  exact g1.2.2.2 k hk id
theorem pVer_b {w : kW} {u : kV} (h : pVer w = some u) : nB u := by
  have hN : ∀ (w : kW) (n : Nat) (r : kW), pNum 9 w = some (n, r) → n < 1000000000 := fun w n r e => by
    unfold pNum at e
    split at e
    · next q =>
      cases e
      unfold okN at q
      simp only [Bool.and_eq_true, decide_eq_true_eq] at q
      exact dv_b (tw_all w) q.1.2
    · cases e
  have hD : ∀ (w : kW) (n : Nat) (r : kW), pDN w = some (n, r) → n < 1000000000 := fun w n r e => by
    unfold pDN at e
    cases q : pDot w with
    | none => rw [q] at e; cases e
    | some y => rw [q] at e; exact hN _ _ _ e
  rw [pVer_mR, pV3_D] at h
  cases q1 : pNum 9 w with
  | none => rw [q1] at h; cases h
  | some a =>
    obtain ⟨n0, r0⟩ := a
    rw [q1] at h
    simp only [Option.bind_some] at h
    cases q2 : pDN r0 with
    | none => rw [q2] at h; cases h
    | some a =>
      obtain ⟨n1, r1⟩ := a
      rw [q2] at h
      simp only [Option.bind_some] at h
      cases q3 : pDN r1 with
      | none => rw [q3] at h; cases h
      | some a =>
        obtain ⟨n2, r2⟩ := a
        rw [q3] at h
        simp only [Option.map_some, Option.bind_some] at h
        cases q4 : mR 4 0 [] r2 with
        | none => rw [q4] at h; cases h
        | some m =>
          rw [q4] at h
          cases h
          exact ⟨hN _ _ _ q1, hD _ _ _ q2, hD _ _ _ q3⟩
theorem sgn_60 (t : kW) : sgn (60 :: t) = if t.head? = some 61 then (3, 2) else (2, 1) := by
  cases t with
  | nil => rfl
  | cons c t =>
    by_cases q : c = 61
    · subst q; rfl
    · rw [if_neg (by simpa using q)]
      unfold sgn
      split <;> simp_all
theorem sgn_62 (t : kW) : sgn (62 :: t) = if t.head? = some 61 then (5, 2) else (4, 1) := by
  cases t with
  | nil => rfl
  | cons c t =>
    by_cases q : c = 61
    · subst q; rfl
    · rw [if_neg (by simpa using q)]
      unfold sgn
      split <;> simp_all
theorem sgn_94 (t : kW) : sgn (94 :: t) = (6, 1) := by unfold sgn; split <;> simp_all
theorem sgn_126 (t : kW) : sgn (126 :: t) = (7, 1) := by unfold sgn; split <;> simp_all
theorem sgn_61 (t : kW) : sgn (61 :: t) = (1, 1) := by unfold sgn; split <;> simp_all
theorem sgn_o (c : Nat) (t : kW) (h : ¬ c = 60 ∧ ¬ c = 62 ∧ ¬ c = 94 ∧ ¬ c = 126 ∧ ¬ c = 61) : sgn (c :: t) = (1, 0) := by
  unfold sgn
  split <;> simp_all
theorem rtt_a (h39 : 39 ≤ h.length) (C : rC h T f b p) (hfb : f + 2 ≤ b) (hc : tc T f = 60) (ho : tc T (f + 1) = 61) : rt_ X (d + 4) 45 25 [some (.ref 3), none, none, none, none] [] h (fun v h' => gr r3 5 20 h h' ∧ ((∃ u a, pVer (sl T (f + 2) b) = some u ∧ v = some (.ref a) ∧ h.length ≤ a ∧ zT h' a (some (3, u)) ∧ rG h' T (wl (T.drop b))) ∨ (pVer (sl T (f + 2) b) = none ∧ v = some .null ∧ rB h' T))) := by
  obtain ⟨P, c, h1, h2, h3⟩ := id C
  have hT := P.2.2.1
  have p1 := P.1
  have b1 := tc_lt P f
  have b2 := tc_lt P (f + 1)
  refine rt_k (k := 1) (pc' := 26) (L' := [some (.ref 3), none, none, none, none]) (st' := [.ref 3]) (h' := h) (fun _ => rfl) ?_
  refine rt_gf rfl c rfl rfl ?_
  refine rt_k (k := 1) (pc' := 30) (L' := [some (.ref 3), none, none, none, none]) (st' := [.ref 3, .ref 1]) (h' := h) (fun _ => rfl) ?_
  refine rt_gf rfl c rfl rfl ?_
  refine rt_cvE rfl (by decide) p1 rfl rfl rfl rfl (tp_atc P (i := f) (by omega)) ?_
  refine rt_k (k := 3) (pc' := 40) (L' := [some (.ref 3), some (.int (nI (tc T f))), none, none, none]) (st' := [.int (nI 60), .int (nI (tc T f))]) (h' := h) (fun _ => rfl) ?_
  refine rt_ieq rfl (by omega) (by decide) (fun _ => ?_) (fun z => absurd z (by omega))
  refine rt_k (k := 5) (pc' := 76) (L' := [some (.ref 3), some (.int (nI (tc T f))), some (.int (nI 1)), none, none]) (st' := [.int (nI 60), .int (nI (tc T f))]) (h' := h) (fun _ => rfl) ?_
  refine rt_ieq rfl (by omega) (by decide) (fun _ => ?_) (fun z => absurd z (by omega))
  refine rt_k (k := 1) (pc' := 86) (L' := [some (.ref 3), some (.int (nI (tc T f))), some (.int (nI 1)), none, none]) (st' := [.ref 3]) (h' := h) (fun _ => rfl) ?_
  refine rt_gf rfl c rfl rfl ?_
  refine rt_k (k := 1) (pc' := 90) (L' := [some (.ref 3), some (.int (nI (tc T f))), some (.int (nI 1)), none, none]) (st' := [.ref 3, .ref 1]) (h' := h) (fun _ => rfl) ?_
  refine rt_gf rfl c rfl rfl ?_
  refine rt_k (k := 1) (pc' := 94) (L' := [some (.ref 3), some (.int (nI (tc T f))), some (.int (nI 1)), none, none]) (st' := [.int (nI 1), .int (nI f), .ref 1]) (h' := h) (fun _ => rfl) ?_
  refine rt_add rfl ?_
  refine rt_cvE rfl (by decide) p1 rfl rfl rfl rfl (tp_atc P (i := f + 1) (by omega)) ?_
  refine rt_k (k := 1) (pc' := 100) (L' := [some (.ref 3), some (.int (nI (tc T f))), some (.int (nI 1)), none, none]) (st' := [.int (nI 61), .int (nI (tc T (f + 1)))]) (h' := h) (fun _ => rfl) ?_
  refine rt_ine rfl (by omega) (by decide) (fun z => absurd z (by omega)) (fun _ => ?_)
  refine rt_k (k := 5) (pc' := 111) (L' := [some (.ref 3), some (.int (nI (tc T f))), some (.int (nI 1)), some (.int (nI 1)), none]) (st' := [.ref 3, .ref 3]) (h' := h) (fun _ => rfl) ?_
  refine rt_gf rfl c rfl rfl ?_
  refine rt_k (k := 4) (pc' := 123) (L' := [some (.ref 3), some (.int (nI (tc T f))), some (.int (nI 1)), some (.int (nI 1)), none]) (st' := [.int (nI 1), .int (nI f), .ref 3]) (h' := h) (fun _ => rfl) ?_
  refine rt_add rfl ?_
  refine rt_k (k := 4) (pc' := 133) (L' := [some (.ref 3), some (.int (nI (tc T f))), some (.int (nI 1)), some (.int (nI 1)), none]) (st' := [.int (nI 1), .int (nI (f + 1)), .ref 3]) (h' := h) (fun _ => rfl) ?_
  refine rt_add rfl ?_
  refine rt_cv rfl (by decide) c rfl rfl rfl rfl (rd_ver (s := f + 1 + 1) h39 C (by omega)) ?_
  rintro _ h1' ⟨g1, (⟨u, a, q1, rfl, q3, q4, q5⟩ | ⟨q1, rfl, q3⟩)⟩
  ·
    have l1 := g1.1
    have hu := pVer_b q1
    refine rt_k (k := 5) (pc' := 149) (L' := [some (.ref 3), some (.int (nI (tc T f))), some (.int (nI 1)), some (.int (nI 1)), some (.ref a)]) (st' := [.int (nI 60), .int (nI (tc T f))]) (h' := h1') (fun _ => rfl) ?_
    refine rt_ine rfl (by omega) (by decide) (fun z => absurd z (by omega)) (fun _ => ?_)
    refine rt_k (k := 1) (pc' := 155) (L' := [some (.ref 3), some (.int (nI (tc T f))), some (.int (nI 1)), some (.int (nI 1)), some (.ref a)]) (st' := [.ref h1'.length]) (h' := (h1' ++ [.inr (11, [.null, .int (nI 0), .null, .int (nI 0)])])) (fun _ => rfl) ?_
    refine rt_nm (fun h_1 e_2 => ?_)
    have g_3 : gr (fun _ => False) 1 (4) h1' h_1 := by rw [e_2]; exact gr_mo (gr_tr (gr_rf (h := h1')) (gr_app (.inr (11, [.null, .int (nI 0), .null, .int (nI 0)])))) (fun _ q => q) (by first | exact Nat.le_refl _ | omega) (by first | exact Nat.le_refl _ | (simp only [ab_z]; omega))
    have n_4 : h_1.length = h1'.length + 1 := by rw [e_2]; simp
    have c_5 : h_1[h1'.length]? = some (.inr (11, [.null, .int (nI 0), .null, .int (nI 0)])) := by rw [e_2]; exact ha_new
    refine rt_k (k := 5) (pc' := 161) (L' := [some (.ref 3), some (.int (nI (tc T f))), some (.int (nI 1)), some (.int (nI 1)), some (.ref a)]) (st' := [.int (nI 1), .ref a, .int (nI 0), .null, .ref h1'.length, .ref h1'.length]) (h' := h_1) (fun _ => rfl) ?_
    have gA := g_3
    have cA := c_5
    have lA : h_1.length = h1'.length + 1 := by omega
    refine rt_c rfl rfl (tst_nr (b1 := false) (b2 := true) cA) ?_
    rintro _ h4 ⟨rfl, f4, c4⟩
    have g4 : gr (fun _ => False) 1 4 h1' h4 := tst_fin (a := 0) (lo := .null) (hi := .null) (b1 := false) (b2 := false) lA gA f4
    have z4 := q4.ex (gr_ex g4 (fun _ _ => id))
    exact rt_r (v := some (.ref h1'.length)) rfl rfl (⟨gr_mo (gr_tr g1 (gr_mo g4 (fun _ q => absurd q id) (Nat.le_refl _) (Nat.le_refl _))) (fun _ q => q) (by omega) (by omega), Or.inl ⟨u, h1'.length, q1, rfl, by omega, ⟨none, some a, ⟨by unfold zz; omega, c4⟩, trivial, z4⟩, rG_gr q5 g4⟩⟩)
  refine rt_k (k := 4) (pc' := 145) (L' := [some (.ref 3), some (.int (nI (tc T f))), some (.int (nI 1)), some (.int (nI 1)), some (.null)]) (st' := [.null]) (h' := h1') (fun _ => rfl) ?_
  exact rt_r (v := some (.null)) rfl rfl (⟨gr_mo g1 (fun _ q => q) (by omega) (by omega), Or.inr ⟨q1, rfl, q3⟩⟩)
theorem rtt_b (h39 : 39 ≤ h.length) (C : rC h T f b p) (hfb : f + 1 ≤ b) (hc : tc T f = 60) (ho : ¬ tc T (f + 1) = 61) : rt_ X (d + 4) 45 25 [some (.ref 3), none, none, none, none] [] h (fun v h' => gr r3 5 20 h h' ∧ ((∃ u a, pVer (sl T (f + 1) b) = some u ∧ v = some (.ref a) ∧ h.length ≤ a ∧ zT h' a (some (2, u)) ∧ rG h' T (wl (T.drop b))) ∨ (pVer (sl T (f + 1) b) = none ∧ v = some .null ∧ rB h' T))) := by
  obtain ⟨P, c, h1, h2, h3⟩ := id C
  have hT := P.2.2.1
  have p1 := P.1
  have b1 := tc_lt P f
  have b2 := tc_lt P (f + 1)
  refine rt_k (k := 1) (pc' := 26) (L' := [some (.ref 3), none, none, none, none]) (st' := [.ref 3]) (h' := h) (fun _ => rfl) ?_
  refine rt_gf rfl c rfl rfl ?_
  refine rt_k (k := 1) (pc' := 30) (L' := [some (.ref 3), none, none, none, none]) (st' := [.ref 3, .ref 1]) (h' := h) (fun _ => rfl) ?_
  refine rt_gf rfl c rfl rfl ?_
  refine rt_cvE rfl (by decide) p1 rfl rfl rfl rfl (tp_atc P (i := f) (by omega)) ?_
  refine rt_k (k := 3) (pc' := 40) (L' := [some (.ref 3), some (.int (nI (tc T f))), none, none, none]) (st' := [.int (nI 60), .int (nI (tc T f))]) (h' := h) (fun _ => rfl) ?_
  refine rt_ieq rfl (by omega) (by decide) (fun _ => ?_) (fun z => absurd z (by omega))
  refine rt_k (k := 5) (pc' := 76) (L' := [some (.ref 3), some (.int (nI (tc T f))), some (.int (nI 1)), none, none]) (st' := [.int (nI 60), .int (nI (tc T f))]) (h' := h) (fun _ => rfl) ?_
  refine rt_ieq rfl (by omega) (by decide) (fun _ => ?_) (fun z => absurd z (by omega))
  refine rt_k (k := 1) (pc' := 86) (L' := [some (.ref 3), some (.int (nI (tc T f))), some (.int (nI 1)), none, none]) (st' := [.ref 3]) (h' := h) (fun _ => rfl) ?_
  refine rt_gf rfl c rfl rfl ?_
  refine rt_k (k := 1) (pc' := 90) (L' := [some (.ref 3), some (.int (nI (tc T f))), some (.int (nI 1)), none, none]) (st' := [.ref 3, .ref 1]) (h' := h) (fun _ => rfl) ?_
  refine rt_gf rfl c rfl rfl ?_
  refine rt_k (k := 1) (pc' := 94) (L' := [some (.ref 3), some (.int (nI (tc T f))), some (.int (nI 1)), none, none]) (st' := [.int (nI 1), .int (nI f), .ref 1]) (h' := h) (fun _ => rfl) ?_
  refine rt_add rfl ?_
  refine rt_cvE rfl (by decide) p1 rfl rfl rfl rfl (tp_atc P (i := f + 1) (by omega)) ?_
  refine rt_k (k := 1) (pc' := 100) (L' := [some (.ref 3), some (.int (nI (tc T f))), some (.int (nI 1)), none, none]) (st' := [.int (nI 61), .int (nI (tc T (f + 1)))]) (h' := h) (fun _ => rfl) ?_
  refine rt_ine rfl (by omega) (by decide) (fun _ => ?_) (fun z => absurd z (by omega))
  refine rt_k (k := 4) (pc' := 111) (L' := [some (.ref 3), some (.int (nI (tc T f))), some (.int (nI 1)), some (.int (nI 0)), none]) (st' := [.ref 3, .ref 3]) (h' := h) (fun _ => rfl) ?_
  refine rt_gf rfl c rfl rfl ?_
  refine rt_k (k := 4) (pc' := 123) (L' := [some (.ref 3), some (.int (nI (tc T f))), some (.int (nI 1)), some (.int (nI 0)), none]) (st' := [.int (nI 1), .int (nI f), .ref 3]) (h' := h) (fun _ => rfl) ?_
  refine rt_add rfl ?_
  refine rt_k (k := 3) (pc' := 133) (L' := [some (.ref 3), some (.int (nI (tc T f))), some (.int (nI 1)), some (.int (nI 0)), none]) (st' := [.int (nI 0), .int (nI (f + 1)), .ref 3]) (h' := h) (fun _ => rfl) ?_
  refine rt_add rfl ?_
  refine rt_cv rfl (by decide) c rfl rfl rfl rfl (rd_ver (s := f + 1 + 0) h39 C (by omega)) ?_
  rintro _ h1' ⟨g1, (⟨u, a, q1, rfl, q3, q4, q5⟩ | ⟨q1, rfl, q3⟩)⟩
  ·
    have l1 := g1.1
    have hu := pVer_b q1
    refine rt_k (k := 5) (pc' := 149) (L' := [some (.ref 3), some (.int (nI (tc T f))), some (.int (nI 1)), some (.int (nI 0)), some (.ref a)]) (st' := [.int (nI 60), .int (nI (tc T f))]) (h' := h1') (fun _ => rfl) ?_
    refine rt_ine rfl (by omega) (by decide) (fun z => absurd z (by omega)) (fun _ => ?_)
    refine rt_k (k := 1) (pc' := 155) (L' := [some (.ref 3), some (.int (nI (tc T f))), some (.int (nI 1)), some (.int (nI 0)), some (.ref a)]) (st' := [.ref h1'.length]) (h' := (h1' ++ [.inr (11, [.null, .int (nI 0), .null, .int (nI 0)])])) (fun _ => rfl) ?_
    refine rt_nm (fun h_6 e_7 => ?_)
    have g_8 : gr (fun _ => False) 1 (4) h1' h_6 := by rw [e_7]; exact gr_mo (gr_tr (gr_rf (h := h1')) (gr_app (.inr (11, [.null, .int (nI 0), .null, .int (nI 0)])))) (fun _ q => q) (by first | exact Nat.le_refl _ | omega) (by first | exact Nat.le_refl _ | (simp only [ab_z]; omega))
    have n_9 : h_6.length = h1'.length + 1 := by rw [e_7]; simp
    have c_10 : h_6[h1'.length]? = some (.inr (11, [.null, .int (nI 0), .null, .int (nI 0)])) := by rw [e_7]; exact ha_new
    refine rt_k (k := 5) (pc' := 161) (L' := [some (.ref 3), some (.int (nI (tc T f))), some (.int (nI 1)), some (.int (nI 0)), some (.ref a)]) (st' := [.int (nI 0), .ref a, .int (nI 0), .null, .ref h1'.length, .ref h1'.length]) (h' := h_6) (fun _ => rfl) ?_
    have gA := g_8
    have cA := c_10
    have lA : h_6.length = h1'.length + 1 := by omega
    refine rt_c rfl rfl (tst_nr (b1 := false) (b2 := false) cA) ?_
    rintro _ h4 ⟨rfl, f4, c4⟩
    have g4 : gr (fun _ => False) 1 4 h1' h4 := tst_fin (a := 0) (lo := .null) (hi := .null) (b1 := false) (b2 := false) lA gA f4
    have z4 := q4.ex (gr_ex g4 (fun _ _ => id))
    exact rt_r (v := some (.ref h1'.length)) rfl rfl (⟨gr_mo (gr_tr g1 (gr_mo g4 (fun _ q => absurd q id) (Nat.le_refl _) (Nat.le_refl _))) (fun _ q => q) (by omega) (by omega), Or.inl ⟨u, h1'.length, q1, rfl, by omega, ⟨none, some a, ⟨by unfold zz; omega, c4⟩, trivial, z4⟩, rG_gr q5 g4⟩⟩)
  refine rt_k (k := 4) (pc' := 145) (L' := [some (.ref 3), some (.int (nI (tc T f))), some (.int (nI 1)), some (.int (nI 0)), some (.null)]) (st' := [.null]) (h' := h1') (fun _ => rfl) ?_
  exact rt_r (v := some (.null)) rfl rfl (⟨gr_mo g1 (fun _ q => q) (by omega) (by omega), Or.inr ⟨q1, rfl, q3⟩⟩)
theorem rtt_c (h39 : 39 ≤ h.length) (C : rC h T f b p) (hfb : f + 2 ≤ b) (hc : tc T f = 62) (ho : tc T (f + 1) = 61) : rt_ X (d + 4) 45 25 [some (.ref 3), none, none, none, none] [] h (fun v h' => gr r3 5 20 h h' ∧ ((∃ u a, pVer (sl T (f + 2) b) = some u ∧ v = some (.ref a) ∧ h.length ≤ a ∧ zT h' a (some (5, u)) ∧ rG h' T (wl (T.drop b))) ∨ (pVer (sl T (f + 2) b) = none ∧ v = some .null ∧ rB h' T))) := by
  obtain ⟨P, c, h1, h2, h3⟩ := id C
  have hT := P.2.2.1
  have p1 := P.1
  have b1 := tc_lt P f
  have b2 := tc_lt P (f + 1)
  refine rt_k (k := 1) (pc' := 26) (L' := [some (.ref 3), none, none, none, none]) (st' := [.ref 3]) (h' := h) (fun _ => rfl) ?_
  refine rt_gf rfl c rfl rfl ?_
  refine rt_k (k := 1) (pc' := 30) (L' := [some (.ref 3), none, none, none, none]) (st' := [.ref 3, .ref 1]) (h' := h) (fun _ => rfl) ?_
  refine rt_gf rfl c rfl rfl ?_
  refine rt_cvE rfl (by decide) p1 rfl rfl rfl rfl (tp_atc P (i := f) (by omega)) ?_
  refine rt_k (k := 3) (pc' := 40) (L' := [some (.ref 3), some (.int (nI (tc T f))), none, none, none]) (st' := [.int (nI 60), .int (nI (tc T f))]) (h' := h) (fun _ => rfl) ?_
  refine rt_ieq rfl (by omega) (by decide) (fun z => absurd z (by omega)) (fun _ => ?_)
  refine rt_k (k := 2) (pc' := 46) (L' := [some (.ref 3), some (.int (nI (tc T f))), none, none, none]) (st' := [.int (nI 62), .int (nI (tc T f))]) (h' := h) (fun _ => rfl) ?_
  refine rt_ieq rfl (by omega) (by decide) (fun _ => ?_) (fun z => absurd z (by omega))
  refine rt_k (k := 5) (pc' := 76) (L' := [some (.ref 3), some (.int (nI (tc T f))), some (.int (nI 1)), none, none]) (st' := [.int (nI 60), .int (nI (tc T f))]) (h' := h) (fun _ => rfl) ?_
  refine rt_ieq rfl (by omega) (by decide) (fun z => absurd z (by omega)) (fun _ => ?_)
  refine rt_k (k := 2) (pc' := 82) (L' := [some (.ref 3), some (.int (nI (tc T f))), some (.int (nI 1)), none, none]) (st' := [.int (nI 62), .int (nI (tc T f))]) (h' := h) (fun _ => rfl) ?_
  refine rt_ine rfl (by omega) (by decide) (fun z => absurd z (by omega)) (fun _ => ?_)
  refine rt_k (k := 1) (pc' := 86) (L' := [some (.ref 3), some (.int (nI (tc T f))), some (.int (nI 1)), none, none]) (st' := [.ref 3]) (h' := h) (fun _ => rfl) ?_
  refine rt_gf rfl c rfl rfl ?_
  refine rt_k (k := 1) (pc' := 90) (L' := [some (.ref 3), some (.int (nI (tc T f))), some (.int (nI 1)), none, none]) (st' := [.ref 3, .ref 1]) (h' := h) (fun _ => rfl) ?_
  refine rt_gf rfl c rfl rfl ?_
  refine rt_k (k := 1) (pc' := 94) (L' := [some (.ref 3), some (.int (nI (tc T f))), some (.int (nI 1)), none, none]) (st' := [.int (nI 1), .int (nI f), .ref 1]) (h' := h) (fun _ => rfl) ?_
  refine rt_add rfl ?_
  refine rt_cvE rfl (by decide) p1 rfl rfl rfl rfl (tp_atc P (i := f + 1) (by omega)) ?_
  refine rt_k (k := 1) (pc' := 100) (L' := [some (.ref 3), some (.int (nI (tc T f))), some (.int (nI 1)), none, none]) (st' := [.int (nI 61), .int (nI (tc T (f + 1)))]) (h' := h) (fun _ => rfl) ?_
  refine rt_ine rfl (by omega) (by decide) (fun z => absurd z (by omega)) (fun _ => ?_)
  refine rt_k (k := 5) (pc' := 111) (L' := [some (.ref 3), some (.int (nI (tc T f))), some (.int (nI 1)), some (.int (nI 1)), none]) (st' := [.ref 3, .ref 3]) (h' := h) (fun _ => rfl) ?_
  refine rt_gf rfl c rfl rfl ?_
  refine rt_k (k := 4) (pc' := 123) (L' := [some (.ref 3), some (.int (nI (tc T f))), some (.int (nI 1)), some (.int (nI 1)), none]) (st' := [.int (nI 1), .int (nI f), .ref 3]) (h' := h) (fun _ => rfl) ?_
  refine rt_add rfl ?_
  refine rt_k (k := 4) (pc' := 133) (L' := [some (.ref 3), some (.int (nI (tc T f))), some (.int (nI 1)), some (.int (nI 1)), none]) (st' := [.int (nI 1), .int (nI (f + 1)), .ref 3]) (h' := h) (fun _ => rfl) ?_
  refine rt_add rfl ?_
  refine rt_cv rfl (by decide) c rfl rfl rfl rfl (rd_ver (s := f + 1 + 1) h39 C (by omega)) ?_
  rintro _ h1' ⟨g1, (⟨u, a, q1, rfl, q3, q4, q5⟩ | ⟨q1, rfl, q3⟩)⟩
  ·
    have l1 := g1.1
    have hu := pVer_b q1
    refine rt_k (k := 5) (pc' := 149) (L' := [some (.ref 3), some (.int (nI (tc T f))), some (.int (nI 1)), some (.int (nI 1)), some (.ref a)]) (st' := [.int (nI 60), .int (nI (tc T f))]) (h' := h1') (fun _ => rfl) ?_
    refine rt_ine rfl (by omega) (by decide) (fun _ => ?_) (fun z => absurd z (by omega))
    refine rt_k (k := 2) (pc' := 168) (L' := [some (.ref 3), some (.int (nI (tc T f))), some (.int (nI 1)), some (.int (nI 1)), some (.ref a)]) (st' := [.int (nI 62), .int (nI (tc T f))]) (h' := h1') (fun _ => rfl) ?_
    refine rt_ine rfl (by omega) (by decide) (fun z => absurd z (by omega)) (fun _ => ?_)
    refine rt_k (k := 1) (pc' := 174) (L' := [some (.ref 3), some (.int (nI (tc T f))), some (.int (nI 1)), some (.int (nI 1)), some (.ref a)]) (st' := [.ref h1'.length]) (h' := (h1' ++ [.inr (11, [.null, .int (nI 0), .null, .int (nI 0)])])) (fun _ => rfl) ?_
    refine rt_nm (fun h_11 e_12 => ?_)
    have g_13 : gr (fun _ => False) 1 (4) h1' h_11 := by rw [e_12]; exact gr_mo (gr_tr (gr_rf (h := h1')) (gr_app (.inr (11, [.null, .int (nI 0), .null, .int (nI 0)])))) (fun _ q => q) (by first | exact Nat.le_refl _ | omega) (by first | exact Nat.le_refl _ | (simp only [ab_z]; omega))
    have n_14 : h_11.length = h1'.length + 1 := by rw [e_12]; simp
    have c_15 : h_11[h1'.length]? = some (.inr (11, [.null, .int (nI 0), .null, .int (nI 0)])) := by rw [e_12]; exact ha_new
    refine rt_k (k := 5) (pc' := 180) (L' := [some (.ref 3), some (.int (nI (tc T f))), some (.int (nI 1)), some (.int (nI 1)), some (.ref a)]) (st' := [.int (nI 0), .null, .int (nI 1), .ref a, .ref h1'.length, .ref h1'.length]) (h' := h_11) (fun _ => rfl) ?_
    have gA := g_13
    have cA := c_15
    have lA : h_11.length = h1'.length + 1 := by omega
    refine rt_c rfl rfl (tst_rn (b1 := true) (b2 := false) cA) ?_
    rintro _ h4 ⟨rfl, f4, c4⟩
    have g4 : gr (fun _ => False) 1 4 h1' h4 := tst_fin (a := 0) (lo := .null) (hi := .null) (b1 := false) (b2 := false) lA gA f4
    have z4 := q4.ex (gr_ex g4 (fun _ _ => id))
    exact rt_r (v := some (.ref h1'.length)) rfl rfl (⟨gr_mo (gr_tr g1 (gr_mo g4 (fun _ q => absurd q id) (Nat.le_refl _) (Nat.le_refl _))) (fun _ q => q) (by omega) (by omega), Or.inl ⟨u, h1'.length, q1, rfl, by omega, ⟨some a, none, ⟨by unfold zz; omega, c4⟩, z4, trivial⟩, rG_gr q5 g4⟩⟩)
  refine rt_k (k := 4) (pc' := 145) (L' := [some (.ref 3), some (.int (nI (tc T f))), some (.int (nI 1)), some (.int (nI 1)), some (.null)]) (st' := [.null]) (h' := h1') (fun _ => rfl) ?_
  exact rt_r (v := some (.null)) rfl rfl (⟨gr_mo g1 (fun _ q => q) (by omega) (by omega), Or.inr ⟨q1, rfl, q3⟩⟩)
theorem rtt_d (h39 : 39 ≤ h.length) (C : rC h T f b p) (hfb : f + 1 ≤ b) (hc : tc T f = 62) (ho : ¬ tc T (f + 1) = 61) : rt_ X (d + 4) 45 25 [some (.ref 3), none, none, none, none] [] h (fun v h' => gr r3 5 20 h h' ∧ ((∃ u a, pVer (sl T (f + 1) b) = some u ∧ v = some (.ref a) ∧ h.length ≤ a ∧ zT h' a (some (4, u)) ∧ rG h' T (wl (T.drop b))) ∨ (pVer (sl T (f + 1) b) = none ∧ v = some .null ∧ rB h' T))) := by
  obtain ⟨P, c, h1, h2, h3⟩ := id C
  have hT := P.2.2.1
  have p1 := P.1
  have b1 := tc_lt P f
  have b2 := tc_lt P (f + 1)
  refine rt_k (k := 1) (pc' := 26) (L' := [some (.ref 3), none, none, none, none]) (st' := [.ref 3]) (h' := h) (fun _ => rfl) ?_
  refine rt_gf rfl c rfl rfl ?_
  refine rt_k (k := 1) (pc' := 30) (L' := [some (.ref 3), none, none, none, none]) (st' := [.ref 3, .ref 1]) (h' := h) (fun _ => rfl) ?_
  refine rt_gf rfl c rfl rfl ?_
  refine rt_cvE rfl (by decide) p1 rfl rfl rfl rfl (tp_atc P (i := f) (by omega)) ?_
  refine rt_k (k := 3) (pc' := 40) (L' := [some (.ref 3), some (.int (nI (tc T f))), none, none, none]) (st' := [.int (nI 60), .int (nI (tc T f))]) (h' := h) (fun _ => rfl) ?_
  refine rt_ieq rfl (by omega) (by decide) (fun z => absurd z (by omega)) (fun _ => ?_)
  refine rt_k (k := 2) (pc' := 46) (L' := [some (.ref 3), some (.int (nI (tc T f))), none, none, none]) (st' := [.int (nI 62), .int (nI (tc T f))]) (h' := h) (fun _ => rfl) ?_
  refine rt_ieq rfl (by omega) (by decide) (fun _ => ?_) (fun z => absurd z (by omega))
  refine rt_k (k := 5) (pc' := 76) (L' := [some (.ref 3), some (.int (nI (tc T f))), some (.int (nI 1)), none, none]) (st' := [.int (nI 60), .int (nI (tc T f))]) (h' := h) (fun _ => rfl) ?_
  refine rt_ieq rfl (by omega) (by decide) (fun z => absurd z (by omega)) (fun _ => ?_)
  refine rt_k (k := 2) (pc' := 82) (L' := [some (.ref 3), some (.int (nI (tc T f))), some (.int (nI 1)), none, none]) (st' := [.int (nI 62), .int (nI (tc T f))]) (h' := h) (fun _ => rfl) ?_
  refine rt_ine rfl (by omega) (by decide) (fun z => absurd z (by omega)) (fun _ => ?_)
  refine rt_k (k := 1) (pc' := 86) (L' := [some (.ref 3), some (.int (nI (tc T f))), some (.int (nI 1)), none, none]) (st' := [.ref 3]) (h' := h) (fun _ => rfl) ?_
  refine rt_gf rfl c rfl rfl ?_
  refine rt_k (k := 1) (pc' := 90) (L' := [some (.ref 3), some (.int (nI (tc T f))), some (.int (nI 1)), none, none]) (st' := [.ref 3, .ref 1]) (h' := h) (fun _ => rfl) ?_
  refine rt_gf rfl c rfl rfl ?_
  refine rt_k (k := 1) (pc' := 94) (L' := [some (.ref 3), some (.int (nI (tc T f))), some (.int (nI 1)), none, none]) (st' := [.int (nI 1), .int (nI f), .ref 1]) (h' := h) (fun _ => rfl) ?_
  refine rt_add rfl ?_
  refine rt_cvE rfl (by decide) p1 rfl rfl rfl rfl (tp_atc P (i := f + 1) (by omega)) ?_
  refine rt_k (k := 1) (pc' := 100) (L' := [some (.ref 3), some (.int (nI (tc T f))), some (.int (nI 1)), none, none]) (st' := [.int (nI 61), .int (nI (tc T (f + 1)))]) (h' := h) (fun _ => rfl) ?_
  refine rt_ine rfl (by omega) (by decide) (fun _ => ?_) (fun z => absurd z (by omega))
  refine rt_k (k := 4) (pc' := 111) (L' := [some (.ref 3), some (.int (nI (tc T f))), some (.int (nI 1)), some (.int (nI 0)), none]) (st' := [.ref 3, .ref 3]) (h' := h) (fun _ => rfl) ?_
  refine rt_gf rfl c rfl rfl ?_
  refine rt_k (k := 4) (pc' := 123) (L' := [some (.ref 3), some (.int (nI (tc T f))), some (.int (nI 1)), some (.int (nI 0)), none]) (st' := [.int (nI 1), .int (nI f), .ref 3]) (h' := h) (fun _ => rfl) ?_
  refine rt_add rfl ?_
  refine rt_k (k := 3) (pc' := 133) (L' := [some (.ref 3), some (.int (nI (tc T f))), some (.int (nI 1)), some (.int (nI 0)), none]) (st' := [.int (nI 0), .int (nI (f + 1)), .ref 3]) (h' := h) (fun _ => rfl) ?_
  refine rt_add rfl ?_
  refine rt_cv rfl (by decide) c rfl rfl rfl rfl (rd_ver (s := f + 1 + 0) h39 C (by omega)) ?_
  rintro _ h1' ⟨g1, (⟨u, a, q1, rfl, q3, q4, q5⟩ | ⟨q1, rfl, q3⟩)⟩
  ·
    have l1 := g1.1
    have hu := pVer_b q1
    refine rt_k (k := 5) (pc' := 149) (L' := [some (.ref 3), some (.int (nI (tc T f))), some (.int (nI 1)), some (.int (nI 0)), some (.ref a)]) (st' := [.int (nI 60), .int (nI (tc T f))]) (h' := h1') (fun _ => rfl) ?_
    refine rt_ine rfl (by omega) (by decide) (fun _ => ?_) (fun z => absurd z (by omega))
    refine rt_k (k := 2) (pc' := 168) (L' := [some (.ref 3), some (.int (nI (tc T f))), some (.int (nI 1)), some (.int (nI 0)), some (.ref a)]) (st' := [.int (nI 62), .int (nI (tc T f))]) (h' := h1') (fun _ => rfl) ?_
    refine rt_ine rfl (by omega) (by decide) (fun z => absurd z (by omega)) (fun _ => ?_)
    refine rt_k (k := 1) (pc' := 174) (L' := [some (.ref 3), some (.int (nI (tc T f))), some (.int (nI 1)), some (.int (nI 0)), some (.ref a)]) (st' := [.ref h1'.length]) (h' := (h1' ++ [.inr (11, [.null, .int (nI 0), .null, .int (nI 0)])])) (fun _ => rfl) ?_
    refine rt_nm (fun h_16 e_17 => ?_)
    have g_18 : gr (fun _ => False) 1 (4) h1' h_16 := by rw [e_17]; exact gr_mo (gr_tr (gr_rf (h := h1')) (gr_app (.inr (11, [.null, .int (nI 0), .null, .int (nI 0)])))) (fun _ q => q) (by first | exact Nat.le_refl _ | omega) (by first | exact Nat.le_refl _ | (simp only [ab_z]; omega))
    have n_19 : h_16.length = h1'.length + 1 := by rw [e_17]; simp
    have c_20 : h_16[h1'.length]? = some (.inr (11, [.null, .int (nI 0), .null, .int (nI 0)])) := by rw [e_17]; exact ha_new
    refine rt_k (k := 5) (pc' := 180) (L' := [some (.ref 3), some (.int (nI (tc T f))), some (.int (nI 1)), some (.int (nI 0)), some (.ref a)]) (st' := [.int (nI 0), .null, .int (nI 0), .ref a, .ref h1'.length, .ref h1'.length]) (h' := h_16) (fun _ => rfl) ?_
    have gA := g_18
    have cA := c_20
    have lA : h_16.length = h1'.length + 1 := by omega
    refine rt_c rfl rfl (tst_rn (b1 := false) (b2 := false) cA) ?_
    rintro _ h4 ⟨rfl, f4, c4⟩
    have g4 : gr (fun _ => False) 1 4 h1' h4 := tst_fin (a := 0) (lo := .null) (hi := .null) (b1 := false) (b2 := false) lA gA f4
    have z4 := q4.ex (gr_ex g4 (fun _ _ => id))
    exact rt_r (v := some (.ref h1'.length)) rfl rfl (⟨gr_mo (gr_tr g1 (gr_mo g4 (fun _ q => absurd q id) (Nat.le_refl _) (Nat.le_refl _))) (fun _ q => q) (by omega) (by omega), Or.inl ⟨u, h1'.length, q1, rfl, by omega, ⟨some a, none, ⟨by unfold zz; omega, c4⟩, z4, trivial⟩, rG_gr q5 g4⟩⟩)
  refine rt_k (k := 4) (pc' := 145) (L' := [some (.ref 3), some (.int (nI (tc T f))), some (.int (nI 1)), some (.int (nI 0)), some (.null)]) (st' := [.null]) (h' := h1') (fun _ => rfl) ?_
  exact rt_r (v := some (.null)) rfl rfl (⟨gr_mo g1 (fun _ q => q) (by omega) (by omega), Or.inr ⟨q1, rfl, q3⟩⟩)
theorem rtt_e (h39 : 39 ≤ h.length) (C : rC h T f b p) (hfb : f + 1 ≤ b) (hc : tc T f = 61) : rt_ X (d + 4) 45 25 [some (.ref 3), none, none, none, none] [] h (fun v h' => gr r3 5 20 h h' ∧ ((∃ u a, pVer (sl T (f + 1) b) = some u ∧ v = some (.ref a) ∧ h.length ≤ a ∧ zT h' a (some (1, u)) ∧ rG h' T (wl (T.drop b))) ∨ (pVer (sl T (f + 1) b) = none ∧ v = some .null ∧ rB h' T))) := by
  obtain ⟨P, c, h1, h2, h3⟩ := id C
  have hT := P.2.2.1
  have p1 := P.1
  have b1 := tc_lt P f
  have b2 := tc_lt P (f + 1)
  refine rt_k (k := 1) (pc' := 26) (L' := [some (.ref 3), none, none, none, none]) (st' := [.ref 3]) (h' := h) (fun _ => rfl) ?_
  refine rt_gf rfl c rfl rfl ?_
  refine rt_k (k := 1) (pc' := 30) (L' := [some (.ref 3), none, none, none, none]) (st' := [.ref 3, .ref 1]) (h' := h) (fun _ => rfl) ?_
  refine rt_gf rfl c rfl rfl ?_
  refine rt_cvE rfl (by decide) p1 rfl rfl rfl rfl (tp_atc P (i := f) (by omega)) ?_
  refine rt_k (k := 3) (pc' := 40) (L' := [some (.ref 3), some (.int (nI (tc T f))), none, none, none]) (st' := [.int (nI 60), .int (nI (tc T f))]) (h' := h) (fun _ => rfl) ?_
  refine rt_ieq rfl (by omega) (by decide) (fun z => absurd z (by omega)) (fun _ => ?_)
  refine rt_k (k := 2) (pc' := 46) (L' := [some (.ref 3), some (.int (nI (tc T f))), none, none, none]) (st' := [.int (nI 62), .int (nI (tc T f))]) (h' := h) (fun _ => rfl) ?_
  refine rt_ieq rfl (by omega) (by decide) (fun z => absurd z (by omega)) (fun _ => ?_)
  refine rt_k (k := 2) (pc' := 52) (L' := [some (.ref 3), some (.int (nI (tc T f))), none, none, none]) (st' := [.int (nI 61), .int (nI (tc T f))]) (h' := h) (fun _ => rfl) ?_
  refine rt_ieq rfl (by omega) (by decide) (fun _ => ?_) (fun z => absurd z (by omega))
  refine rt_k (k := 5) (pc' := 76) (L' := [some (.ref 3), some (.int (nI (tc T f))), some (.int (nI 1)), none, none]) (st' := [.int (nI 60), .int (nI (tc T f))]) (h' := h) (fun _ => rfl) ?_
  refine rt_ieq rfl (by omega) (by decide) (fun z => absurd z (by omega)) (fun _ => ?_)
  refine rt_k (k := 2) (pc' := 82) (L' := [some (.ref 3), some (.int (nI (tc T f))), some (.int (nI 1)), none, none]) (st' := [.int (nI 62), .int (nI (tc T f))]) (h' := h) (fun _ => rfl) ?_
  refine rt_ine rfl (by omega) (by decide) (fun _ => ?_) (fun z => absurd z (by omega))
  refine rt_k (k := 4) (pc' := 111) (L' := [some (.ref 3), some (.int (nI (tc T f))), some (.int (nI 1)), some (.int (nI 0)), none]) (st' := [.ref 3, .ref 3]) (h' := h) (fun _ => rfl) ?_
  refine rt_gf rfl c rfl rfl ?_
  refine rt_k (k := 4) (pc' := 123) (L' := [some (.ref 3), some (.int (nI (tc T f))), some (.int (nI 1)), some (.int (nI 0)), none]) (st' := [.int (nI 1), .int (nI f), .ref 3]) (h' := h) (fun _ => rfl) ?_
  refine rt_add rfl ?_
  refine rt_k (k := 3) (pc' := 133) (L' := [some (.ref 3), some (.int (nI (tc T f))), some (.int (nI 1)), some (.int (nI 0)), none]) (st' := [.int (nI 0), .int (nI (f + 1)), .ref 3]) (h' := h) (fun _ => rfl) ?_
  refine rt_add rfl ?_
  refine rt_cv rfl (by decide) c rfl rfl rfl rfl (rd_ver (s := f + 1 + 0) h39 C (by omega)) ?_
  rintro _ h1' ⟨g1, (⟨u, a, q1, rfl, q3, q4, q5⟩ | ⟨q1, rfl, q3⟩)⟩
  ·
    have l1 := g1.1
    have hu := pVer_b q1
    refine rt_k (k := 5) (pc' := 149) (L' := [some (.ref 3), some (.int (nI (tc T f))), some (.int (nI 1)), some (.int (nI 0)), some (.ref a)]) (st' := [.int (nI 60), .int (nI (tc T f))]) (h' := h1') (fun _ => rfl) ?_
    refine rt_ine rfl (by omega) (by decide) (fun _ => ?_) (fun z => absurd z (by omega))
    refine rt_k (k := 2) (pc' := 168) (L' := [some (.ref 3), some (.int (nI (tc T f))), some (.int (nI 1)), some (.int (nI 0)), some (.ref a)]) (st' := [.int (nI 62), .int (nI (tc T f))]) (h' := h1') (fun _ => rfl) ?_
    refine rt_ine rfl (by omega) (by decide) (fun _ => ?_) (fun z => absurd z (by omega))
    refine rt_k (k := 2) (pc' := 187) (L' := [some (.ref 3), some (.int (nI (tc T f))), some (.int (nI 1)), some (.int (nI 0)), some (.ref a)]) (st' := [.int (nI 94), .int (nI (tc T f))]) (h' := h1') (fun _ => rfl) ?_
    refine rt_ine rfl (by omega) (by decide) (fun _ => ?_) (fun z => absurd z (by omega))
    refine rt_k (k := 2) (pc' := 210) (L' := [some (.ref 3), some (.int (nI (tc T f))), some (.int (nI 1)), some (.int (nI 0)), some (.ref a)]) (st' := [.int (nI 126), .int (nI (tc T f))]) (h' := h1') (fun _ => rfl) ?_
    refine rt_ine rfl (by omega) (by decide) (fun _ => ?_) (fun z => absurd z (by omega))
    refine rt_k (k := 1) (pc' := 233) (L' := [some (.ref 3), some (.int (nI (tc T f))), some (.int (nI 1)), some (.int (nI 0)), some (.ref a)]) (st' := [.ref h1'.length]) (h' := (h1' ++ [.inr (11, [.null, .int (nI 0), .null, .int (nI 0)])])) (fun _ => rfl) ?_
    refine rt_nm (fun h_21 e_22 => ?_)
    have g_23 : gr (fun _ => False) 1 (4) h1' h_21 := by rw [e_22]; exact gr_mo (gr_tr (gr_rf (h := h1')) (gr_app (.inr (11, [.null, .int (nI 0), .null, .int (nI 0)])))) (fun _ q => q) (by first | exact Nat.le_refl _ | omega) (by first | exact Nat.le_refl _ | (simp only [ab_z]; omega))
    have n_24 : h_21.length = h1'.length + 1 := by rw [e_22]; simp
    have c_25 : h_21[h1'.length]? = some (.inr (11, [.null, .int (nI 0), .null, .int (nI 0)])) := by rw [e_22]; exact ha_new
    refine rt_k (k := 5) (pc' := 240) (L' := [some (.ref 3), some (.int (nI (tc T f))), some (.int (nI 1)), some (.int (nI 0)), some (.ref a)]) (st' := [.int (nI 1), .ref a, .int (nI 1), .ref a, .ref h1'.length, .ref h1'.length]) (h' := h_21) (fun _ => rfl) ?_
    have gA := g_23
    have cA := c_25
    have lA : h_21.length = h1'.length + 1 := by omega
    refine rt_c rfl rfl (tst_rr (b1 := true) (b2 := true) cA) ?_
    rintro _ h4 ⟨rfl, f4, c4⟩
    have g4 : gr (fun _ => False) 1 4 h1' h4 := tst_fin (a := 0) (lo := .null) (hi := .null) (b1 := false) (b2 := false) lA gA f4
    have z4 := q4.ex (gr_ex g4 (fun _ _ => id))
    exact rt_r (v := some (.ref h1'.length)) rfl rfl (⟨gr_mo (gr_tr g1 (gr_mo g4 (fun _ q => absurd q id) (Nat.le_refl _) (Nat.le_refl _))) (fun _ q => q) (by omega) (by omega), Or.inl ⟨u, h1'.length, q1, rfl, by omega, ⟨some a, some a, ⟨by unfold zz; omega, c4⟩, z4, z4⟩, rG_gr q5 g4⟩⟩)
  refine rt_k (k := 4) (pc' := 145) (L' := [some (.ref 3), some (.int (nI (tc T f))), some (.int (nI 1)), some (.int (nI 0)), some (.null)]) (st' := [.null]) (h' := h1') (fun _ => rfl) ?_
  exact rt_r (v := some (.null)) rfl rfl (⟨gr_mo g1 (fun _ q => q) (by omega) (by omega), Or.inr ⟨q1, rfl, q3⟩⟩)
theorem rtt_g (h39 : 39 ≤ h.length) (C : rC h T f b p) (hfb : f + 1 ≤ b) (hc : tc T f = 94) : rt_ X (d + 4) 45 25 [some (.ref 3), none, none, none, none] [] h (fun v h' => gr r3 5 20 h h' ∧ ((∃ u a, pVer (sl T (f + 1) b) = some u ∧ v = some (.ref a) ∧ h.length ≤ a ∧ zT h' a (some (6, u)) ∧ rG h' T (wl (T.drop b))) ∨ (pVer (sl T (f + 1) b) = none ∧ v = some .null ∧ rB h' T))) := by
  obtain ⟨P, c, h1, h2, h3⟩ := id C
  have hT := P.2.2.1
  have p1 := P.1
  have b1 := tc_lt P f
  have b2 := tc_lt P (f + 1)
  refine rt_k (k := 1) (pc' := 26) (L' := [some (.ref 3), none, none, none, none]) (st' := [.ref 3]) (h' := h) (fun _ => rfl) ?_
  refine rt_gf rfl c rfl rfl ?_
  refine rt_k (k := 1) (pc' := 30) (L' := [some (.ref 3), none, none, none, none]) (st' := [.ref 3, .ref 1]) (h' := h) (fun _ => rfl) ?_
  refine rt_gf rfl c rfl rfl ?_
  refine rt_cvE rfl (by decide) p1 rfl rfl rfl rfl (tp_atc P (i := f) (by omega)) ?_
  refine rt_k (k := 3) (pc' := 40) (L' := [some (.ref 3), some (.int (nI (tc T f))), none, none, none]) (st' := [.int (nI 60), .int (nI (tc T f))]) (h' := h) (fun _ => rfl) ?_
  refine rt_ieq rfl (by omega) (by decide) (fun z => absurd z (by omega)) (fun _ => ?_)
  refine rt_k (k := 2) (pc' := 46) (L' := [some (.ref 3), some (.int (nI (tc T f))), none, none, none]) (st' := [.int (nI 62), .int (nI (tc T f))]) (h' := h) (fun _ => rfl) ?_
  refine rt_ieq rfl (by omega) (by decide) (fun z => absurd z (by omega)) (fun _ => ?_)
  refine rt_k (k := 2) (pc' := 52) (L' := [some (.ref 3), some (.int (nI (tc T f))), none, none, none]) (st' := [.int (nI 61), .int (nI (tc T f))]) (h' := h) (fun _ => rfl) ?_
  refine rt_ieq rfl (by omega) (by decide) (fun z => absurd z (by omega)) (fun _ => ?_)
  refine rt_k (k := 2) (pc' := 58) (L' := [some (.ref 3), some (.int (nI (tc T f))), none, none, none]) (st' := [.int (nI 94), .int (nI (tc T f))]) (h' := h) (fun _ => rfl) ?_
  refine rt_ieq rfl (by omega) (by decide) (fun _ => ?_) (fun z => absurd z (by omega))
  refine rt_k (k := 5) (pc' := 76) (L' := [some (.ref 3), some (.int (nI (tc T f))), some (.int (nI 1)), none, none]) (st' := [.int (nI 60), .int (nI (tc T f))]) (h' := h) (fun _ => rfl) ?_
  refine rt_ieq rfl (by omega) (by decide) (fun z => absurd z (by omega)) (fun _ => ?_)
  refine rt_k (k := 2) (pc' := 82) (L' := [some (.ref 3), some (.int (nI (tc T f))), some (.int (nI 1)), none, none]) (st' := [.int (nI 62), .int (nI (tc T f))]) (h' := h) (fun _ => rfl) ?_
  refine rt_ine rfl (by omega) (by decide) (fun _ => ?_) (fun z => absurd z (by omega))
  refine rt_k (k := 4) (pc' := 111) (L' := [some (.ref 3), some (.int (nI (tc T f))), some (.int (nI 1)), some (.int (nI 0)), none]) (st' := [.ref 3, .ref 3]) (h' := h) (fun _ => rfl) ?_
  refine rt_gf rfl c rfl rfl ?_
  refine rt_k (k := 4) (pc' := 123) (L' := [some (.ref 3), some (.int (nI (tc T f))), some (.int (nI 1)), some (.int (nI 0)), none]) (st' := [.int (nI 1), .int (nI f), .ref 3]) (h' := h) (fun _ => rfl) ?_
  refine rt_add rfl ?_
  refine rt_k (k := 3) (pc' := 133) (L' := [some (.ref 3), some (.int (nI (tc T f))), some (.int (nI 1)), some (.int (nI 0)), none]) (st' := [.int (nI 0), .int (nI (f + 1)), .ref 3]) (h' := h) (fun _ => rfl) ?_
  refine rt_add rfl ?_
  refine rt_cv rfl (by decide) c rfl rfl rfl rfl (rd_ver (s := f + 1 + 0) h39 C (by omega)) ?_
  rintro _ h1' ⟨g1, (⟨u, a, q1, rfl, q3, q4, q5⟩ | ⟨q1, rfl, q3⟩)⟩
  ·
    have l1 := g1.1
    have hu := pVer_b q1
    refine rt_k (k := 5) (pc' := 149) (L' := [some (.ref 3), some (.int (nI (tc T f))), some (.int (nI 1)), some (.int (nI 0)), some (.ref a)]) (st' := [.int (nI 60), .int (nI (tc T f))]) (h' := h1') (fun _ => rfl) ?_
    refine rt_ine rfl (by omega) (by decide) (fun _ => ?_) (fun z => absurd z (by omega))
    refine rt_k (k := 2) (pc' := 168) (L' := [some (.ref 3), some (.int (nI (tc T f))), some (.int (nI 1)), some (.int (nI 0)), some (.ref a)]) (st' := [.int (nI 62), .int (nI (tc T f))]) (h' := h1') (fun _ => rfl) ?_
    refine rt_ine rfl (by omega) (by decide) (fun _ => ?_) (fun z => absurd z (by omega))
    refine rt_k (k := 2) (pc' := 187) (L' := [some (.ref 3), some (.int (nI (tc T f))), some (.int (nI 1)), some (.int (nI 0)), some (.ref a)]) (st' := [.int (nI 94), .int (nI (tc T f))]) (h' := h1') (fun _ => rfl) ?_
    refine rt_ine rfl (by omega) (by decide) (fun z => absurd z (by omega)) (fun _ => ?_)
    obtain ⟨kk, ck⟩ := q4.c
    refine rt_k (k := 1) (pc' := 193) (L' := [some (.ref 3), some (.int (nI (tc T f))), some (.int (nI 1)), some (.int (nI 0)), some (.ref a)]) (st' := [.ref h1'.length]) (h' := (h1' ++ [.inr (11, [.null, .int (nI 0), .null, .int (nI 0)])])) (fun _ => rfl) ?_
    refine rt_nm (fun h_26 e_27 => ?_)
    have g_28 : gr (fun _ => False) 1 (4) h1' h_26 := by rw [e_27]; exact gr_mo (gr_tr (gr_rf (h := h1')) (gr_app (.inr (11, [.null, .int (nI 0), .null, .int (nI 0)])))) (fun _ q => q) (by first | exact Nat.le_refl _ | omega) (by first | exact Nat.le_refl _ | (simp only [ab_z]; omega))
    have n_29 : h_26.length = h1'.length + 1 := by rw [e_27]; simp
    have c_30 : h_26[a]? = some (.inr (8, [.ref kk])) := by rw [e_27]; exact ha_old _ ck
    have c_31 : h_26[h1'.length]? = some (.inr (11, [.null, .int (nI 0), .null, .int (nI 0)])) := by rw [e_27]; exact ha_new
    refine rt_k (k := 4) (pc' := 199) (L' := [some (.ref 3), some (.int (nI (tc T f))), some (.int (nI 1)), some (.int (nI 0)), some (.ref a)]) (st' := [.ref a, .int (nI 1), .ref a, .ref h1'.length, .ref h1'.length]) (h' := h_26) (fun _ => rfl) ?_
    have gA := g_28
    have cA := c_31
    have lA : h_26.length = h1'.length + 1 := by omega
    have zA := q4.ex (gr_ex gA (fun _ _ => id))
    refine rt_cv rfl (by decide) c_30 rfl rfl rfl rfl (ver_brk (by omega) zA hu) ?_
    rintro _ h3 ⟨a3, rfl, g3, l3, z3⟩
    have cB := gr_at g3 cA id
    have zB := zA.ex (gr_ex g3 (fun _ _ => id))
    refine rt_k (k := 1) (pc' := 203) (L' := [some (.ref 3), some (.int (nI (tc T f))), some (.int (nI 1)), some (.int (nI 0)), some (.ref a)]) (st' := [.int (nI 0), .ref a3, .int (nI 1), .ref a, .ref h1'.length, .ref h1'.length]) (h' := h3) (fun _ => rfl) ?_
    refine rt_c rfl rfl (tst_rr (b1 := true) (b2 := false) cB) ?_
    rintro _ h4 ⟨rfl, f4, c4⟩
    have z4 : ∀ v w, zV h3 v w → zV h4 v w := fun v w Z => by
      obtain ⟨k, g, k1, k2, k3⟩ := Z
      exact ⟨k, g, ⟨k1.1, (f4.2.2 _ (fun q => by subst q; rw [k1.2] at cB; cases cB)).trans k1.2⟩, ⟨k2.1, (f4.2.2 _ (fun q => by subst q; rw [k2.2] at cB; cases cB)).trans k2.2⟩, k3⟩
    have gAB := gr_tr gA g3
    have g4 : gr (fun _ => False) 3 12 h1' h4 := ⟨by rw [f4.1]; exact gAB.1, by rw [f4.1]; exact gAB.2.1, by rw [f4.2.1]; exact gAB.2.2.1, fun k hk _ => by rw [f4.2.2 k (by omega)]; exact gAB.2.2.2 k hk id⟩
    exact rt_r (v := some (.ref h1'.length)) rfl rfl (⟨gr_mo (gr_tr g1 (gr_mo g4 (fun _ q => absurd q id) (Nat.le_refl _) (Nat.le_refl _))) (fun _ q => q) (by omega) (by omega), Or.inl ⟨u, h1'.length, q1, rfl, by omega, ⟨some a, some a3, ⟨by unfold zz; omega, c4⟩, z4 _ _ zB, z4 _ _ z3⟩, rG_gr q5 g4⟩⟩)
  refine rt_k (k := 4) (pc' := 145) (L' := [some (.ref 3), some (.int (nI (tc T f))), some (.int (nI 1)), some (.int (nI 0)), some (.null)]) (st' := [.null]) (h' := h1') (fun _ => rfl) ?_
  exact rt_r (v := some (.null)) rfl rfl (⟨gr_mo g1 (fun _ q => q) (by omega) (by omega), Or.inr ⟨q1, rfl, q3⟩⟩)
theorem rtt_i (h39 : 39 ≤ h.length) (C : rC h T f b p) (hfb : f + 1 ≤ b) (hc : tc T f = 126) : rt_ X (d + 4) 45 25 [some (.ref 3), none, none, none, none] [] h (fun v h' => gr r3 5 20 h h' ∧ ((∃ u a, pVer (sl T (f + 1) b) = some u ∧ v = some (.ref a) ∧ h.length ≤ a ∧ zT h' a (some (7, u)) ∧ rG h' T (wl (T.drop b))) ∨ (pVer (sl T (f + 1) b) = none ∧ v = some .null ∧ rB h' T))) := by
  obtain ⟨P, c, h1, h2, h3⟩ := id C
  have hT := P.2.2.1
  have p1 := P.1
  have b1 := tc_lt P f
  have b2 := tc_lt P (f + 1)
  refine rt_k (k := 1) (pc' := 26) (L' := [some (.ref 3), none, none, none, none]) (st' := [.ref 3]) (h' := h) (fun _ => rfl) ?_
  refine rt_gf rfl c rfl rfl ?_
  refine rt_k (k := 1) (pc' := 30) (L' := [some (.ref 3), none, none, none, none]) (st' := [.ref 3, .ref 1]) (h' := h) (fun _ => rfl) ?_
  refine rt_gf rfl c rfl rfl ?_
  refine rt_cvE rfl (by decide) p1 rfl rfl rfl rfl (tp_atc P (i := f) (by omega)) ?_
  refine rt_k (k := 3) (pc' := 40) (L' := [some (.ref 3), some (.int (nI (tc T f))), none, none, none]) (st' := [.int (nI 60), .int (nI (tc T f))]) (h' := h) (fun _ => rfl) ?_
  refine rt_ieq rfl (by omega) (by decide) (fun z => absurd z (by omega)) (fun _ => ?_)
  refine rt_k (k := 2) (pc' := 46) (L' := [some (.ref 3), some (.int (nI (tc T f))), none, none, none]) (st' := [.int (nI 62), .int (nI (tc T f))]) (h' := h) (fun _ => rfl) ?_
  refine rt_ieq rfl (by omega) (by decide) (fun z => absurd z (by omega)) (fun _ => ?_)
  refine rt_k (k := 2) (pc' := 52) (L' := [some (.ref 3), some (.int (nI (tc T f))), none, none, none]) (st' := [.int (nI 61), .int (nI (tc T f))]) (h' := h) (fun _ => rfl) ?_
  refine rt_ieq rfl (by omega) (by decide) (fun z => absurd z (by omega)) (fun _ => ?_)
  refine rt_k (k := 2) (pc' := 58) (L' := [some (.ref 3), some (.int (nI (tc T f))), none, none, none]) (st' := [.int (nI 94), .int (nI (tc T f))]) (h' := h) (fun _ => rfl) ?_
  refine rt_ieq rfl (by omega) (by decide) (fun z => absurd z (by omega)) (fun _ => ?_)
  refine rt_k (k := 2) (pc' := 64) (L' := [some (.ref 3), some (.int (nI (tc T f))), none, none, none]) (st' := [.int (nI 126), .int (nI (tc T f))]) (h' := h) (fun _ => rfl) ?_
  refine rt_ine rfl (by omega) (by decide) (fun z => absurd z (by omega)) (fun _ => ?_)
  refine rt_k (k := 5) (pc' := 76) (L' := [some (.ref 3), some (.int (nI (tc T f))), some (.int (nI 1)), none, none]) (st' := [.int (nI 60), .int (nI (tc T f))]) (h' := h) (fun _ => rfl) ?_
  refine rt_ieq rfl (by omega) (by decide) (fun z => absurd z (by omega)) (fun _ => ?_)
  refine rt_k (k := 2) (pc' := 82) (L' := [some (.ref 3), some (.int (nI (tc T f))), some (.int (nI 1)), none, none]) (st' := [.int (nI 62), .int (nI (tc T f))]) (h' := h) (fun _ => rfl) ?_
  refine rt_ine rfl (by omega) (by decide) (fun _ => ?_) (fun z => absurd z (by omega))
  refine rt_k (k := 4) (pc' := 111) (L' := [some (.ref 3), some (.int (nI (tc T f))), some (.int (nI 1)), some (.int (nI 0)), none]) (st' := [.ref 3, .ref 3]) (h' := h) (fun _ => rfl) ?_
  refine rt_gf rfl c rfl rfl ?_
  refine rt_k (k := 4) (pc' := 123) (L' := [some (.ref 3), some (.int (nI (tc T f))), some (.int (nI 1)), some (.int (nI 0)), none]) (st' := [.int (nI 1), .int (nI f), .ref 3]) (h' := h) (fun _ => rfl) ?_
  refine rt_add rfl ?_
  refine rt_k (k := 3) (pc' := 133) (L' := [some (.ref 3), some (.int (nI (tc T f))), some (.int (nI 1)), some (.int (nI 0)), none]) (st' := [.int (nI 0), .int (nI (f + 1)), .ref 3]) (h' := h) (fun _ => rfl) ?_
  refine rt_add rfl ?_
  refine rt_cv rfl (by decide) c rfl rfl rfl rfl (rd_ver (s := f + 1 + 0) h39 C (by omega)) ?_
  rintro _ h1' ⟨g1, (⟨u, a, q1, rfl, q3, q4, q5⟩ | ⟨q1, rfl, q3⟩)⟩
  ·
    have l1 := g1.1
    have hu := pVer_b q1
    refine rt_k (k := 5) (pc' := 149) (L' := [some (.ref 3), some (.int (nI (tc T f))), some (.int (nI 1)), some (.int (nI 0)), some (.ref a)]) (st' := [.int (nI 60), .int (nI (tc T f))]) (h' := h1') (fun _ => rfl) ?_
    refine rt_ine rfl (by omega) (by decide) (fun _ => ?_) (fun z => absurd z (by omega))
    refine rt_k (k := 2) (pc' := 168) (L' := [some (.ref 3), some (.int (nI (tc T f))), some (.int (nI 1)), some (.int (nI 0)), some (.ref a)]) (st' := [.int (nI 62), .int (nI (tc T f))]) (h' := h1') (fun _ => rfl) ?_
    refine rt_ine rfl (by omega) (by decide) (fun _ => ?_) (fun z => absurd z (by omega))
    refine rt_k (k := 2) (pc' := 187) (L' := [some (.ref 3), some (.int (nI (tc T f))), some (.int (nI 1)), some (.int (nI 0)), some (.ref a)]) (st' := [.int (nI 94), .int (nI (tc T f))]) (h' := h1') (fun _ => rfl) ?_
    refine rt_ine rfl (by omega) (by decide) (fun _ => ?_) (fun z => absurd z (by omega))
    refine rt_k (k := 2) (pc' := 210) (L' := [some (.ref 3), some (.int (nI (tc T f))), some (.int (nI 1)), some (.int (nI 0)), some (.ref a)]) (st' := [.int (nI 126), .int (nI (tc T f))]) (h' := h1') (fun _ => rfl) ?_
    refine rt_ine rfl (by omega) (by decide) (fun z => absurd z (by omega)) (fun _ => ?_)
    obtain ⟨kk, ck⟩ := q4.c
    refine rt_k (k := 1) (pc' := 216) (L' := [some (.ref 3), some (.int (nI (tc T f))), some (.int (nI 1)), some (.int (nI 0)), some (.ref a)]) (st' := [.ref h1'.length]) (h' := (h1' ++ [.inr (11, [.null, .int (nI 0), .null, .int (nI 0)])])) (fun _ => rfl) ?_
    refine rt_nm (fun h_32 e_33 => ?_)
    have g_34 : gr (fun _ => False) 1 (4) h1' h_32 := by rw [e_33]; exact gr_mo (gr_tr (gr_rf (h := h1')) (gr_app (.inr (11, [.null, .int (nI 0), .null, .int (nI 0)])))) (fun _ q => q) (by first | exact Nat.le_refl _ | omega) (by first | exact Nat.le_refl _ | (simp only [ab_z]; omega))
    have n_35 : h_32.length = h1'.length + 1 := by rw [e_33]; simp
    have c_36 : h_32[a]? = some (.inr (8, [.ref kk])) := by rw [e_33]; exact ha_old _ ck
    have c_37 : h_32[h1'.length]? = some (.inr (11, [.null, .int (nI 0), .null, .int (nI 0)])) := by rw [e_33]; exact ha_new
    refine rt_k (k := 4) (pc' := 222) (L' := [some (.ref 3), some (.int (nI (tc T f))), some (.int (nI 1)), some (.int (nI 0)), some (.ref a)]) (st' := [.ref a, .int (nI 1), .ref a, .ref h1'.length, .ref h1'.length]) (h' := h_32) (fun _ => rfl) ?_
    have gA := g_34
    have cA := c_37
    have lA : h_32.length = h1'.length + 1 := by omega
    have zA := q4.ex (gr_ex gA (fun _ _ => id))
    refine rt_cv rfl (by decide) c_36 rfl rfl rfl rfl (ver_min (by omega) zA) ?_
    rintro _ h3 ⟨a3, rfl, g3, l3, z3⟩
    have cB := gr_at g3 cA id
    have zB := zA.ex (gr_ex g3 (fun _ _ => id))
    refine rt_k (k := 1) (pc' := 226) (L' := [some (.ref 3), some (.int (nI (tc T f))), some (.int (nI 1)), some (.int (nI 0)), some (.ref a)]) (st' := [.int (nI 0), .ref a3, .int (nI 1), .ref a, .ref h1'.length, .ref h1'.length]) (h' := h3) (fun _ => rfl) ?_
    refine rt_c rfl rfl (tst_rr (b1 := true) (b2 := false) cB) ?_
    rintro _ h4 ⟨rfl, f4, c4⟩
    have z4 : ∀ v w, zV h3 v w → zV h4 v w := fun v w Z => by
      obtain ⟨k, g, k1, k2, k3⟩ := Z
      exact ⟨k, g, ⟨k1.1, (f4.2.2 _ (fun q => by subst q; rw [k1.2] at cB; cases cB)).trans k1.2⟩, ⟨k2.1, (f4.2.2 _ (fun q => by subst q; rw [k2.2] at cB; cases cB)).trans k2.2⟩, k3⟩
    have gAB := gr_tr gA g3
    have g4 : gr (fun _ => False) 3 12 h1' h4 := ⟨by rw [f4.1]; exact gAB.1, by rw [f4.1]; exact gAB.2.1, by rw [f4.2.1]; exact gAB.2.2.1, fun k hk _ => by rw [f4.2.2 k (by omega)]; exact gAB.2.2.2 k hk id⟩
    exact rt_r (v := some (.ref h1'.length)) rfl rfl (⟨gr_mo (gr_tr g1 (gr_mo g4 (fun _ q => absurd q id) (Nat.le_refl _) (Nat.le_refl _))) (fun _ q => q) (by omega) (by omega), Or.inl ⟨u, h1'.length, q1, rfl, by omega, ⟨some a, some a3, ⟨by unfold zz; omega, c4⟩, z4 _ _ zB, z4 _ _ z3⟩, rG_gr q5 g4⟩⟩)
  refine rt_k (k := 4) (pc' := 145) (L' := [some (.ref 3), some (.int (nI (tc T f))), some (.int (nI 1)), some (.int (nI 0)), some (.null)]) (st' := [.null]) (h' := h1') (fun _ => rfl) ?_
  exact rt_r (v := some (.null)) rfl rfl (⟨gr_mo g1 (fun _ q => q) (by omega) (by omega), Or.inr ⟨q1, rfl, q3⟩⟩)
theorem rtt_j (h39 : 39 ≤ h.length) (C : rC h T f b p) (hfb : f + 0 ≤ b) (hc : ¬ tc T f = 60 ∧ ¬ tc T f = 62 ∧ ¬ tc T f = 94 ∧ ¬ tc T f = 126 ∧ ¬ tc T f = 61) : rt_ X (d + 4) 45 25 [some (.ref 3), none, none, none, none] [] h (fun v h' => gr r3 5 20 h h' ∧ ((∃ u a, pVer (sl T (f + 0) b) = some u ∧ v = some (.ref a) ∧ h.length ≤ a ∧ zT h' a (some (1, u)) ∧ rG h' T (wl (T.drop b))) ∨ (pVer (sl T (f + 0) b) = none ∧ v = some .null ∧ rB h' T))) := by
  obtain ⟨P, c, h1, h2, h3⟩ := id C
  have hT := P.2.2.1
  have p1 := P.1
  have b1 := tc_lt P f
  have b2 := tc_lt P (f + 1)
  refine rt_k (k := 1) (pc' := 26) (L' := [some (.ref 3), none, none, none, none]) (st' := [.ref 3]) (h' := h) (fun _ => rfl) ?_
  refine rt_gf rfl c rfl rfl ?_
  refine rt_k (k := 1) (pc' := 30) (L' := [some (.ref 3), none, none, none, none]) (st' := [.ref 3, .ref 1]) (h' := h) (fun _ => rfl) ?_
  refine rt_gf rfl c rfl rfl ?_
  refine rt_cvE rfl (by decide) p1 rfl rfl rfl rfl (tp_atc P (i := f) (by omega)) ?_
  refine rt_k (k := 3) (pc' := 40) (L' := [some (.ref 3), some (.int (nI (tc T f))), none, none, none]) (st' := [.int (nI 60), .int (nI (tc T f))]) (h' := h) (fun _ => rfl) ?_
  refine rt_ieq rfl (by omega) (by decide) (fun z => absurd z (by omega)) (fun _ => ?_)
  refine rt_k (k := 2) (pc' := 46) (L' := [some (.ref 3), some (.int (nI (tc T f))), none, none, none]) (st' := [.int (nI 62), .int (nI (tc T f))]) (h' := h) (fun _ => rfl) ?_
  refine rt_ieq rfl (by omega) (by decide) (fun z => absurd z (by omega)) (fun _ => ?_)
  refine rt_k (k := 2) (pc' := 52) (L' := [some (.ref 3), some (.int (nI (tc T f))), none, none, none]) (st' := [.int (nI 61), .int (nI (tc T f))]) (h' := h) (fun _ => rfl) ?_
  refine rt_ieq rfl (by omega) (by decide) (fun z => absurd z (by omega)) (fun _ => ?_)
  refine rt_k (k := 2) (pc' := 58) (L' := [some (.ref 3), some (.int (nI (tc T f))), none, none, none]) (st' := [.int (nI 94), .int (nI (tc T f))]) (h' := h) (fun _ => rfl) ?_
  refine rt_ieq rfl (by omega) (by decide) (fun z => absurd z (by omega)) (fun _ => ?_)
  refine rt_k (k := 2) (pc' := 64) (L' := [some (.ref 3), some (.int (nI (tc T f))), none, none, none]) (st' := [.int (nI 126), .int (nI (tc T f))]) (h' := h) (fun _ => rfl) ?_
  refine rt_ine rfl (by omega) (by decide) (fun _ => ?_) (fun z => absurd z (by omega))
  refine rt_k (k := 4) (pc' := 76) (L' := [some (.ref 3), some (.int (nI (tc T f))), some (.int (nI 0)), none, none]) (st' := [.int (nI 60), .int (nI (tc T f))]) (h' := h) (fun _ => rfl) ?_
  refine rt_ieq rfl (by omega) (by decide) (fun z => absurd z (by omega)) (fun _ => ?_)
  refine rt_k (k := 2) (pc' := 82) (L' := [some (.ref 3), some (.int (nI (tc T f))), some (.int (nI 0)), none, none]) (st' := [.int (nI 62), .int (nI (tc T f))]) (h' := h) (fun _ => rfl) ?_
  refine rt_ine rfl (by omega) (by decide) (fun _ => ?_) (fun z => absurd z (by omega))
  refine rt_k (k := 4) (pc' := 111) (L' := [some (.ref 3), some (.int (nI (tc T f))), some (.int (nI 0)), some (.int (nI 0)), none]) (st' := [.ref 3, .ref 3]) (h' := h) (fun _ => rfl) ?_
  refine rt_gf rfl c rfl rfl ?_
  refine rt_k (k := 3) (pc' := 123) (L' := [some (.ref 3), some (.int (nI (tc T f))), some (.int (nI 0)), some (.int (nI 0)), none]) (st' := [.int (nI 0), .int (nI f), .ref 3]) (h' := h) (fun _ => rfl) ?_
  refine rt_add rfl ?_
  refine rt_k (k := 3) (pc' := 133) (L' := [some (.ref 3), some (.int (nI (tc T f))), some (.int (nI 0)), some (.int (nI 0)), none]) (st' := [.int (nI 0), .int (nI (f + 0)), .ref 3]) (h' := h) (fun _ => rfl) ?_
  refine rt_add rfl ?_
  refine rt_cv rfl (by decide) c rfl rfl rfl rfl (rd_ver (s := f + 0 + 0) h39 C (by omega)) ?_
  rintro _ h1' ⟨g1, (⟨u, a, q1, rfl, q3, q4, q5⟩ | ⟨q1, rfl, q3⟩)⟩
  ·
    have l1 := g1.1
    have hu := pVer_b q1
    refine rt_k (k := 5) (pc' := 149) (L' := [some (.ref 3), some (.int (nI (tc T f))), some (.int (nI 0)), some (.int (nI 0)), some (.ref a)]) (st' := [.int (nI 60), .int (nI (tc T f))]) (h' := h1') (fun _ => rfl) ?_
    refine rt_ine rfl (by omega) (by decide) (fun _ => ?_) (fun z => absurd z (by omega))
    refine rt_k (k := 2) (pc' := 168) (L' := [some (.ref 3), some (.int (nI (tc T f))), some (.int (nI 0)), some (.int (nI 0)), some (.ref a)]) (st' := [.int (nI 62), .int (nI (tc T f))]) (h' := h1') (fun _ => rfl) ?_
    refine rt_ine rfl (by omega) (by decide) (fun _ => ?_) (fun z => absurd z (by omega))
    refine rt_k (k := 2) (pc' := 187) (L' := [some (.ref 3), some (.int (nI (tc T f))), some (.int (nI 0)), some (.int (nI 0)), some (.ref a)]) (st' := [.int (nI 94), .int (nI (tc T f))]) (h' := h1') (fun _ => rfl) ?_
    refine rt_ine rfl (by omega) (by decide) (fun _ => ?_) (fun z => absurd z (by omega))
    refine rt_k (k := 2) (pc' := 210) (L' := [some (.ref 3), some (.int (nI (tc T f))), some (.int (nI 0)), some (.int (nI 0)), some (.ref a)]) (st' := [.int (nI 126), .int (nI (tc T f))]) (h' := h1') (fun _ => rfl) ?_
    refine rt_ine rfl (by omega) (by decide) (fun _ => ?_) (fun z => absurd z (by omega))
    refine rt_k (k := 1) (pc' := 233) (L' := [some (.ref 3), some (.int (nI (tc T f))), some (.int (nI 0)), some (.int (nI 0)), some (.ref a)]) (st' := [.ref h1'.length]) (h' := (h1' ++ [.inr (11, [.null, .int (nI 0), .null, .int (nI 0)])])) (fun _ => rfl) ?_
    refine rt_nm (fun h_38 e_39 => ?_)
    have g_40 : gr (fun _ => False) 1 (4) h1' h_38 := by rw [e_39]; exact gr_mo (gr_tr (gr_rf (h := h1')) (gr_app (.inr (11, [.null, .int (nI 0), .null, .int (nI 0)])))) (fun _ q => q) (by first | exact Nat.le_refl _ | omega) (by first | exact Nat.le_refl _ | (simp only [ab_z]; omega))
    have n_41 : h_38.length = h1'.length + 1 := by rw [e_39]; simp
    have c_42 : h_38[h1'.length]? = some (.inr (11, [.null, .int (nI 0), .null, .int (nI 0)])) := by rw [e_39]; exact ha_new
    refine rt_k (k := 5) (pc' := 240) (L' := [some (.ref 3), some (.int (nI (tc T f))), some (.int (nI 0)), some (.int (nI 0)), some (.ref a)]) (st' := [.int (nI 1), .ref a, .int (nI 1), .ref a, .ref h1'.length, .ref h1'.length]) (h' := h_38) (fun _ => rfl) ?_
    have gA := g_40
    have cA := c_42
    have lA : h_38.length = h1'.length + 1 := by omega
    refine rt_c rfl rfl (tst_rr (b1 := true) (b2 := true) cA) ?_
    rintro _ h4 ⟨rfl, f4, c4⟩
    have g4 : gr (fun _ => False) 1 4 h1' h4 := tst_fin (a := 0) (lo := .null) (hi := .null) (b1 := false) (b2 := false) lA gA f4
    have z4 := q4.ex (gr_ex g4 (fun _ _ => id))
    exact rt_r (v := some (.ref h1'.length)) rfl rfl (⟨gr_mo (gr_tr g1 (gr_mo g4 (fun _ q => absurd q id) (Nat.le_refl _) (Nat.le_refl _))) (fun _ q => q) (by omega) (by omega), Or.inl ⟨u, h1'.length, q1, rfl, by omega, ⟨some a, some a, ⟨by unfold zz; omega, c4⟩, z4, z4⟩, rG_gr q5 g4⟩⟩)
  refine rt_k (k := 4) (pc' := 145) (L' := [some (.ref 3), some (.int (nI (tc T f))), some (.int (nI 0)), some (.int (nI 0)), some (.null)]) (st' := [.null]) (h' := h1') (fun _ => rfl) ?_
  exact rt_r (v := some (.null)) rfl rfl (⟨gr_mo g1 (fun _ q => q) (by omega) (by omega), Or.inr ⟨q1, rfl, q3⟩⟩)
end TT

