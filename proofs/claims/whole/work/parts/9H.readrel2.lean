/-! A RELEASE read, 2; the tape emptied. -/
section LS2
variable {X : Nat × (Nat → Int32)} {d : Nat} {h : List va_E} {Q : Option Value → List va_E → Prop} {T : List Nat} {f b p : Nat} {ws : List kW}
theorem rd_release {no : Nat} (h39 : 39 ≤ h.length) (C : rC h T f b p) (W : rW T f b ws) : rt_ X (d + 8) 24 0 [some (.ref 3), some (.int (nI no)), none, none, none, none, none, none, none, none, none, none, none] [] h (rlP h T 1089 4510 (pRel no ws)) := by
  have c := C.2.1
  have nul : ∀ h1, gr r3 1089 4510 h h1 → rB h1 T → pRel no ws = none → rlP h T 1089 4510 (pRel no ws) (some .null) h1 := fun h1 g1 B1 e => ⟨g1, Or.inr ⟨e, Or.inl ⟨rfl, B1⟩⟩⟩
  refine rt_k (k := 1) (pc' := 1) (L' := [some (.ref 3), some (.int (nI no)), none, none, none, none, none, none, none, none, none, none, none]) (st' := [.ref 3]) (h' := h) (fun _ => rfl) ?_
  refine rt_cv rfl (by decide) c rfl rfl rfl rfl (rd_name C W) ?_
  rintro _ h1 ⟨F1, (⟨w, us, k1, k2, rfl, f1, b1, p1, C1, W1⟩ | ⟨k1, rfl, B1⟩)⟩
  ·
    have c1 := C1.2.1
    have l1 : h1.length = h.length := F1.1
    refine rt_k (k := 4) (pc' := 8) (L' := [some (.ref 3), some (.int (nI no)), some (.long (nmI w)), none, none, none, none, none, none, none, none, none, none]) (st' := [.int (lg_cmp (nmI w) 0)]) (h' := h1) (fun _ => rfl) ?_
    refine rt_ln rfl (fun _ => ?_) (fun z => absurd z ((fun y => nm_nz k2 y)))
    refine rt_k (k := 1) (pc' := 16) (L' := [some (.ref 3), some (.int (nI no)), some (.long (nmI w)), none, none, none, none, none, none, none, none, none, none]) (st' := [.ref 3]) (h' := h1) (fun _ => rfl) ?_
    refine rt_cv rfl (by decide) c1 rfl rfl rfl rfl (rd_version (by omega) C1) ?_
    rintro v h2 ⟨g2, (⟨u, a, q1, rfl, q3, q4, q5⟩ | ⟨q1, rfl, q3⟩)⟩
    rotate_left
    · have e : pRel no ws = none := by
        rw [k1]
        cases us with
        | nil => rfl
        | cons v us =>
          obtain ⟨e1, -⟩ := rW_w W1
          rw [pRel, if_pos k2, e1, q1]
      refine rt_k (k := 4) (pc' := 27) (L' := [some (.ref 3), some (.int (nI no)), some (.long (nmI w)), none, some (.null), none, none, none, none, none, none, none, none]) (st' := [.null]) (h' := h2) (fun _ => rfl) ?_
      exact rt_r (v := some (.null)) rfl rfl (nul h2 (gr_mo (gr_tr (gr_fr F1) g2) (fun _ q => q) (by omega) (by omega)) q3 e)
    cases us with
    | nil => rw [rW_0 W1, pVer_nil] at q1; cases q1
    | cons v us =>
    obtain ⟨e1, e2, e3⟩ := rW_w W1
    have e : pRel no ws = (pCl 13 us [] [] []).map (fun q => (no, w, u, q.1, q.2.1, q.2.2)) := by rw [k1, pRel, if_pos k2, e1, q1]
    rw [e]
    have G2 := gr_mo (gr_tr (gr_fr F1) g2) (fun _ q => q) (show 0 + 2 ≤ 2 by omega) (show 0 + 8 ≤ 8 by omega)
    rw [← e2] at q5
    have l2 := g2.1
    refine rt_k (k := 3) (pc' := 28) (L' := [some (.ref 3), some (.int (nI no)), some (.long (nmI w)), none, some (.ref a), none, none, none, none, none, none, none, none]) (st' := []) (h' := h2) (fun _ => rfl) ?_
    refine rt_k (k := 1) (pc' := 31) (L' := [some (.ref 3), some (.int (nI no)), some (.long (nmI w)), none, some (.ref a), none, none, none, none, none, none, none, none]) (st' := [.ref h2.length]) (h' := (h2 ++ [.inr (9, [.int (nI 0), .long 0, .null, .null, .null, .null, .int (nI 0)])])) (fun _ => rfl) ?_
    refine rt_nm (fun h_1 e_2 => ?_)
    have g_3 : gr (fun _ => False) 1 (7) h2 h_1 := by rw [e_2]; exact gr_mo (gr_tr (gr_rf (h := h2)) (gr_app (.inr (9, [.int (nI 0), .long 0, .null, .null, .null, .null, .int (nI 0)])))) (fun _ q => q) (by first | exact Nat.le_refl _ | omega) (by first | exact Nat.le_refl _ | (simp only [ab_z]; omega))
    have n_4 : h_1.length = h2.length + 1 := by rw [e_2]; simp
    have c_5 : h_1[h2.length]? = some (.inr (9, [.int (nI 0), .long 0, .null, .null, .null, .null, .int (nI 0)])) := by rw [e_2]; exact ha_new
    refine rt_k (k := 4) (pc' := 36) (L' := [some (.ref 3), some (.int (nI no)), some (.long (nmI w)), none, some (.ref a), none, none, none, none, none, none, none, none]) (st' := [.ref a, .long (nmI w), .int (nI no), .ref h2.length, .ref h2.length]) (h' := h_1) (fun _ => rfl) ?_
    have gA := g_3
    have cA := c_5
    have zA := q4.ex (gr_ex gA (fun _ _ => id))
    have qA := rG_gr q5 gA
    have lA : h_1.length = h2.length + 1 := by omega
    generalize h_1 = h3 at *
    refine rt_c rfl rfl (rel_mk (w := w) (no := no) cA zA) ?_
    rintro _ h4 ⟨rfl, g4, M4⟩
    have hk : ∀ k, k < h2.length → h4[k]? = h2[k]? := fun k hk => (g4.2.2.2 k (by omega) (by omega)).trans (gA.2.2.2 k hk id)
    have l4 := g4.1
    have G4 : gr r3 (10 + 83 * 0) (51 + 343 * 0) h h4 := by
      refine ⟨by omega, by have := g4.2.1; have := G2.2.1; omega, ?_, fun k hk9 hr => ?_⟩
      · have := g4.2.2.1; have := gA.2.2.1; have := G2.2.2.1; omega
      · rw [hk k (by omega)]; exact G2.2.2.2 k hk9 hr
    obtain ⟨f5, b5, p5, C5, W5⟩ := q5
    have C6 : rC h4 T f5 b5 p5 := by
      obtain ⟨⟨u1, ⟨gg, u2, u3⟩, u4, u5⟩, u6, u7⟩ := C5
      exact ⟨⟨(hk 1 (by omega)).trans u1, ⟨gg, (hk 2 (by omega)).trans u2, u3⟩, u4, u5⟩, (hk 3 (by omega)).trans u6, u7⟩
    refine rt_k (k := 5) (pc' := 47) (L' := [some (.ref 3), some (.int (nI no)), some (.long (nmI w)), none, some (.ref a), some (.ref h2.length), some (.int (nI 1)), some (.int (nI 0)), none, none, none, none, none]) (st' := []) (h' := h4) (fun _ => rfl) ?_
    exact rl_lp (c0 := 10) (s0 := 51) h39 ⟨by omega, by omega, by omega, by omega, by omega, by omega, by omega, by omega⟩ (by omega) 13 0 rfl (no, w, u, [], [], []) h4 f5 b5 p5 us G4 M4 C6 W5 _ _ _ _ _
  have e : pRel no ws = none := by
    cases ws with
    | nil => rfl
    | cons w us =>
      cases us with
      | nil => rfl
      | cons v us => rw [pRel, if_neg (fun y => k1 ⟨w, v :: us, rfl, y⟩)]
  refine rt_k (k := 3) (pc' := 7) (L' := [some (.ref 3), some (.int (nI no)), some (.long 0), none, none, none, none, none, none, none, none, none, none]) (st' := [.long 0, .long 0]) (h' := h1) (fun _ => rfl) ?_
  refine rt_k (k := 1) (pc' := 8) (L' := [some (.ref 3), some (.int (nI no)), some (.long 0), none, none, none, none, none, none, none, none, none, none]) (st' := [.int (lg_cmp 0 0)]) (h' := h1) (fun _ => rfl) ?_
  refine rt_ln rfl (fun z => absurd z ((fun y => y rfl))) (fun _ => ?_)
  refine rt_k (k := 6) (pc' := 27) (L' := [some (.ref 3), some (.int (nI no)), some (.long 0), none, some (.null), none, none, none, none, none, none, none, none]) (st' := [.null]) (h' := h1) (fun _ => rfl) ?_
  exact rt_r (v := some (.null)) rfl rfl (nul h1 (gr_mo (gr_fr F1) (fun _ q => q) (by omega) (by omega)) B1 e)
/-- the tape and its reader between calls -/
def cT (h : List va_E) (T : List Nat) : Prop := tp_ h 1 2 T ∧ ∃ f b p, h[3]? = some (.inr (2, [.ref 1, .int (nI f), .int (nI b), .int (nI p)])) ∧ p ≤ 1000
abbrev tA : Nat → Prop := fun z => z = 1 ∨ z = 2 ∨ z = 3
theorem tA_zz : ∀ k, zz k → ¬ tA k := by intro k q; unfold zz at q; unfold tA; omega
theorem rd_open2 (C : cT h T) : rt_ X (d + 2) 20 0 [some (.ref 3)] [] h (fun v h' => v = none ∧ fr_ r3 h h' ∧ rG h' T (wl T)) := by
  obtain ⟨P, f, b, p, c, h3⟩ := C
  refine rt_k (k := 2) (pc' := 2) (L' := [some (.ref 3)]) (st' := [.int (nI 0), .ref 3]) (h' := h) (fun _ => rfl) ?_
  refine rt_pf rfl c ⟨rfl, (show 2 < 4 by decide), rfl⟩ ?_
  have f_6 : fr_ (r3) h (h.set 3 (.inr (2, [.ref 1, .int (nI f), .int (nI 0), .int (nI p)]))) := fr_set (e' := .inr (2, [.ref 1, .int (nI f), .int (nI 0), .int (nI p)])) c (by rfl) (by first | decide | simp)
  have c_7 := hs_self (e' := .inr (2, [.ref 1, .int (nI f), .int (nI 0), .int (nI p)])) c
  refine rt_k (k := 1) (pc' := 6) (L' := [some (.ref 3)]) (st' := [.ref 3]) (h' := (h.set 3 (.inr (2, [.ref 1, .int (nI f), .int (nI 0), .int (nI p)])))) (fun _ => rfl) ?_
  have F0 := f_6
  have P0 := tp_fr P F0
  have c0 := c_7
  have hT := P.2.2.1
  obtain ⟨a1, a2, a3⟩ := rW_next (b := 0) hT (Nat.zero_le _)
  refine rt_cv rfl (by decide) c0 rfl rfl rfl rfl (rd_next c0 P0 (Nat.zero_le _)) ?_
  rintro v h' ⟨rfl, rfl⟩
  refine rt_r (v := none) rfl rfl ⟨rfl, fr_tr F0 (fr_set c0 rfl rfl), _, _, p, ⟨tp_fr P0 (fr_set c0 rfl rfl), hs_self c0, a1, a2, h3⟩, a3⟩
theorem kp_fin1 (K0 : pk0 h) (C : rC h T f b p) (x : Prop) (hx : rt_ X d 42 0 [some (.ref 3)] [] h (fun v h' => v = some (.int (tB x)) ∧ h' = h)) : rt_ X (d + 1) 54 0 [some (.ref 0), none] [] h (fun v h' => v = some (.int (tB x)) ∧ fr_ (fun z => z = 1) h h' ∧ cT h' []) := by
  obtain ⟨P, c, h1, h2, h3⟩ := id C
  obtain ⟨p1, ⟨g, p2, p3⟩, p4, p5⟩ := id P
  refine rt_k (k := 1) (pc' := 1) (L' := [some (.ref 0), none]) (st' := [.ref 0]) (h' := h) (fun _ => rfl) ?_
  refine rt_gf rfl K0 rfl rfl ?_
  refine rt_cvE rfl (by decide) c rfl rfl rfl rfl hx ?_
  refine rt_k (k := 2) (pc' := 9) (L' := [some (.ref 0), some (.int (tB x))]) (st' := [.ref 0]) (h' := h) (fun _ => rfl) ?_
  refine rt_gf rfl K0 rfl rfl ?_
  refine rt_k (k := 1) (pc' := 13) (L' := [some (.ref 0), some (.int (tB x))]) (st' := [.int (nI 0), .ref 1]) (h' := h) (fun _ => rfl) ?_
  refine rt_cv rfl (by decide) p1 rfl rfl rfl rfl (tp_cut P 0) ?_
  rintro v h' ⟨rfl, rfl⟩
  refine rt_n rfl ?_
  exact rt_r (v := some (.int (tB x))) rfl (rtT rfl rfl) ⟨rfl, fr_set p1 rfl rfl, ⟨hs_self p1, ⟨g, hs_ne p2 (by decide), fun j hj => by cases hj⟩, Nat.zero_le _, fun c hc => by cases hc⟩, f, b, p, hs_ne c (by decide), h3⟩
theorem kp_fin (K0 : pk0 h) (G : rG h T ws) : rt_ X (d + 1) 54 0 [some (.ref 0), none] [] h (fun v h' => v = some (.int (tB (ws = []))) ∧ fr_ (fun z => z = 1) h h' ∧ cT h' []) := by
  obtain ⟨f, b, p, C, W⟩ := G
  exact kp_fin1 K0 C _ (rd_end C W)
theorem kp_finB (K0 : pk0 h) (G : rB h T) : rt_ X (d + 1) 54 0 [some (.ref 0), none] [] h (fun v h' => ∃ x : Prop, v = some (.int (tB x)) ∧ fr_ (fun z => z = 1) h h' ∧ cT h' []) := by
  obtain ⟨f, b, p, C⟩ := G
  have hx : rt_ X d 42 0 [some (.ref 3)] [] h (fun v h' => v = some (.int (tB (f = b))) ∧ h' = h) := by
    obtain ⟨P, c, h1, h2, h3⟩ := C
    have hT := P.2.2.1
    refine rt_k (k := 1) (pc' := 1) (L' := [some (.ref 3)]) (st' := [.ref 3]) (h' := h) (fun _ => rfl) ?_
    refine rt_gf rfl c rfl rfl ?_
    refine rt_k (k := 1) (pc' := 5) (L' := [some (.ref 3)]) (st' := [.ref 3, .int (nI f)]) (h' := h) (fun _ => rfl) ?_
    refine rt_gf rfl c rfl rfl ?_
    refine rt_ine rfl (by omega) (by omega) (fun z => ?_) (fun z => ?_)
    ·
      refine rt_k (k := 1) (pc' := 16) (L' := [some (.ref 3)]) (st' := [.int (nI 0)]) (h' := h) (fun _ => rfl) ?_
      exact rt_r (v := some (.int (nI 0))) rfl rfl (⟨ret0 z, rfl⟩)
    refine rt_k (k := 2) (pc' := 16) (L' := [some (.ref 3)]) (st' := [.int (nI 1)]) (h' := h) (fun _ => rfl) ?_
    exact rt_r (v := some (.int (nI 1))) rfl rfl (⟨ret1 z, rfl⟩)
  refine rt_w (kp_fin1 K0 C _ hx) ?_
  rintro v h' ⟨q1, q2, q3⟩
  exact ⟨f = b, q1, q2, q3⟩
end LS2

