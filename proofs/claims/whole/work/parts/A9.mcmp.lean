/-! THE REFERENCE, 20: compare, match. -/
def mcl (T : List Nat) : Nat := 2 * T.length + 60 + 19 * (wl T).length
def msl (T : List Nat) : Nat := 5 * T.length + 1000 + 450 * (wl T).length
section MT
variable {X : Nat × (Nat → Int32)} {d : Nat} {h : List va_E} {Q : Option Value → List va_E → Prop} {ad : Nat → Nat} {T : List Nat} {J : List kL} {nx : Nat} {D : kD} {K : List kG} {made : Nat} {st : kS}
theorem pVer_none_s {a : kW} (e : pVer a = none) : ¬ (pVer a).isSome = true := by rw [e]; simp
theorem m_compare (C : mKp h ad T J nx D K made st) : rt_ X (d + 8) 179 0 [some (.ref 23), none, none] [] h (fun v h' => gr mB (mcl T) (msl T) h h' ∧ mKp h' ad [] J nx D K made st ∧ cmP (wl T) v) := by
  obtain ⟨l39, ⟨nw, pa, nc, bc, kn, c23, CA⟩, ⟨⟨g, t1, t2⟩, t3, t4⟩, W, -⟩ := id C
  refine rt_k (k := 1) (pc' := 1) (L' := [some (.ref 23), none, none]) (st' := [.ref 23]) (h' := h) (fun _ => rfl) ?_
  refine rt_cv rfl (by decide) c23 rfl rfl rfl rfl (m_readWords l39 c23 t1 t2 ⟨t3, t4⟩ W) ?_
  rintro _ h1 ⟨rfl, g1, d23, W1⟩
  generalize ews : wl T = ws at *
  have l1 := g1.1
  obtain ⟨F25, d25, hw4, HF⟩ := id W1
  have fin : ∀ h' c s v, gr (fun _ => False) c s h1 h' → c ≤ 38 → s ≤ 900 → cmP ws v → gr mB (mcl T) (msl T) h h' ∧ mKp h' ad [] J nx D K made st ∧ cmP ws v := fun h' c s v g hc hs q => by
    have G := gr_tr g1 (gr_mo g (fun _ q => absurd q id) (Nat.le_refl _) (Nat.le_refl _))
    exact ⟨gr_mo G mA_B (by unfold mcl; omega) (by unfold msl; omega), C.rd c23 G ((W1.ex (gr_ex g (fun _ _ => id)) (g.2.2.2 25 (by omega) id)).nil) (gr_at g d23 id), q⟩
  refine rt_k (k := 1) (pc' := 5) (L' := [some (.ref 23), none, none]) (st' := [.ref 23]) (h' := h1) (fun _ => rfl) ?_
  refine rt_gf rfl d23 rfl rfl ?_
  refine rt_k (k := 1) (pc' := 9) (L' := [some (.ref 23), none, none]) (st' := [.int (nI 2), .int (nI ws.length)]) (h' := h1) (fun _ => rfl) ?_
  refine rt_ieq rfl (by omega) (by decide) (fun z => ?_) (fun z => ?_)
  rotate_left
  ·
    refine rt_k (k := 1) (pc' := 14) (L' := [some (.ref 23), none, none]) (st' := [.int (-6)]) (h' := h1) (fun _ => rfl) ?_
    exact rt_r (v := some (.int (-6))) rfl rfl (fin h1 0 0 _ gr_rf (by omega) (by omega) (Or.inr ⟨(fun ⟨a, b, e, _⟩ => z (by rw [e]; rfl)), rfl⟩))
  obtain ⟨a, b, rfl⟩ : ∃ a b, ws = [a, b] := by
    match ws, z with
    | [a, b], _ => exact ⟨a, b, rfl⟩
    | [], z => simp at z
    | [_], z => simp at z
    | _ :: _ :: _ :: _, z => simp at z
  obtain ⟨aa, fa, Sa⟩ := HF 0 a rfl
  obtain ⟨ba, fb, Sb⟩ := HF 1 b rfl
  refine rt_k (k := 1) (pc' := 16) (L' := [some (.ref 23), none, none]) (st' := [.ref 23]) (h' := h1) (fun _ => rfl) ?_
  refine rt_gf rfl d23 rfl rfl ?_
  refine rt_k (k := 1) (pc' := 20) (L' := [some (.ref 23), none, none]) (st' := [.int (nI 0), .ref 25]) (h' := h1) (fun _ => rfl) ?_
  refine rt_aalN rfl d25 rfl (by omega) (by decide) fa ?_
  refine rt_k (k := 1) (pc' := 22) (L' := [some (.ref 23), none, none]) (st' := [.int (nI 0), .ref aa]) (h' := h1) (fun _ => rfl) ?_
  refine rt_c rfl rfl (m_version (f := 0) (d := d + 1) (by omega) Sa (Nat.zero_le _)) ?_
  rintro x2 h2 ⟨g2, q2⟩
  have e2 := gr_at g2 d23 id
  have e5 := gr_at g2 d25 id
  have Sb2 := Sb.gf g2
  have l2 := g2.1
  have go : ∀ v1 : Value, (∃ a', v1 = .ref a') ∨ v1 = .null → (∀ x3 h3, mvP h2 (pVer b) (some x3) h3 → rt_ X (d + 8) 179 36 [some (.ref 23), some v1, none] [x3] h3 (fun v h' => gr mB (mcl T) (msl T) h h' ∧ mKp h' ad [] J nx D K made st ∧ cmP [a, b] v)) → rt_ X (d + 8) 179 25 [some (.ref 23), none, none] [v1] h2 (fun v h' => gr mB (mcl T) (msl T) h h' ∧ mKp h' ad [] J nx D K made st ∧ cmP [a, b] v) := fun v1 hv k => by
    refine rt_k (k := 1) (pc' := 26) (L' := [some (.ref 23), some v1, none]) (st' := []) (h' := h2) (fun _ => by rcases hv with ⟨a', rfl⟩ | rfl <;> rfl) ?_
    refine rt_k (k := 1) (pc' := 27) (L' := [some (.ref 23), some (v1), none]) (st' := [.ref 23]) (h' := h2) (fun _ => rfl) ?_
    refine rt_gf rfl e2 rfl rfl ?_
    refine rt_k (k := 1) (pc' := 31) (L' := [some (.ref 23), some (v1), none]) (st' := [.int (nI 1), .ref 25]) (h' := h2) (fun _ => rfl) ?_
    refine rt_aalN rfl e5 rfl (by omega) (by decide) fb ?_
    refine rt_k (k := 1) (pc' := 33) (L' := [some (.ref 23), some (v1), none]) (st' := [.int (nI 0), .ref ba]) (h' := h2) (fun _ => rfl) ?_
    refine rt_c rfl rfl (m_version (f := 0) (d := d + 1) (by omega) Sb2 (Nat.zero_le _)) ?_
    rintro x3 h3 q3
    obtain ⟨x3', rfl⟩ : ∃ y, x3 = some y := by rcases q3.2 with ⟨_, _, _, e, _⟩ | ⟨_, e⟩ <;> exact ⟨_, e⟩
    exact k x3' h3 q3
  rcases q2 with ⟨u, a', p1, rfl, p3, V1⟩ | ⟨p1, rfl⟩
  · refine go _ (Or.inl ⟨a', rfl⟩) (fun x3 h3 q3 => ?_)
    obtain ⟨g3, ⟨u', b', r1, r2, r3, V2⟩ | ⟨r1, r2⟩⟩ := q3
    · cases r2
      rw [List.drop_zero] at p1
      have V1' := V1.1.ex (gr_ex g3 (fun _ _ => id))
      refine rt_k (k := 7) (pc' := 52) (L' := [some (.ref 23), some (.ref a'), some (.ref b')]) (st' := [.ref b', .ref a']) (h' := h3) (fun _ => rfl) ?_
      refine rt_cE rfl rfl (m_order V1' V2.1) ?_
      exact rt_r (v := some (.int (vc u u'))) rfl rfl (fin h3 _ _ _ (gr_tr g2 g3) (by omega) (by omega) (Or.inl ⟨a, b, u, u', rfl, p1, r1, rfl⟩))
    · cases r2
      refine rt_k (k := 7) (pc' := 55) (L' := [some (.ref 23), some (.ref a'), some (.null)]) (st' := [.int (-6)]) (h' := h3) (fun _ => rfl) ?_
      exact rt_r (v := some (.int (-6))) rfl rfl (fin h3 _ _ _ (gr_tr g2 g3) (by omega) (by omega) (Or.inr ⟨(fun ⟨x, y, e, e1, e2⟩ => by cases e; exact pVer_none_s r1 e2), rfl⟩))
  · refine go _ (Or.inr rfl) (fun x3 h3 q3 => ?_)
    rw [List.drop_zero] at p1
    obtain ⟨g3, q3⟩ := q3
    have : x3 = .null ∨ ∃ b', x3 = .ref b' := by
      rcases q3 with ⟨u', b', r1, r2, r3, V2⟩ | ⟨r1, r2⟩
      · cases r2; exact Or.inr ⟨_, rfl⟩
      · cases r2; exact Or.inl rfl
    rcases this with rfl | ⟨b', rfl⟩
    · have t0 := trivial
      refine rt_k (k := 5) (pc' := 55) (L' := [some (.ref 23), some (.null), some (.null)]) (st' := [.int (-6)]) (h' := h3) (fun _ => rfl) ?_
      exact rt_r (v := some (.int (-6))) rfl rfl (fin h3 _ _ _ (gr_tr g2 g3) (by omega) (by omega) (Or.inr ⟨(fun ⟨x, y, e, e1, e2⟩ => by cases e; exact pVer_none_s p1 e1), rfl⟩))
    · have t0 := trivial
      refine rt_k (k := 5) (pc' := 55) (L' := [some (.ref 23), some (.null), some (.ref b')]) (st' := [.int (-6)]) (h' := h3) (fun _ => rfl) ?_
      exact rt_r (v := some (.int (-6))) rfl rfl (fin h3 _ _ _ (gr_tr g2 g3) (by omega) (by omega) (Or.inr ⟨(fun ⟨x, y, e, e1, e2⟩ => by cases e; exact pVer_none_s p1 e1), rfl⟩))
theorem m_match (C : mKp h ad T J nx D K made st) : rt_ X (d + 10) 180 0 [some (.ref 23), none, none] [] h (fun v h' => gr mB (mcl T) (msl T) h h' ∧ mKp h' ad [] J nx D K made st ∧ mtP (wl T) v) := by
  obtain ⟨l39, ⟨nw, pa, nc, bc, kn, c23, CA⟩, ⟨⟨g, t1, t2⟩, t3, t4⟩, W, -⟩ := id C
  refine rt_k (k := 1) (pc' := 1) (L' := [some (.ref 23), none, none]) (st' := [.ref 23]) (h' := h) (fun _ => rfl) ?_
  refine rt_cv rfl (by decide) c23 rfl rfl rfl rfl (m_readWords l39 c23 t1 t2 ⟨t3, t4⟩ W) ?_
  rintro _ h1 ⟨rfl, g1, d23, W1⟩
  generalize ews : wl T = ws at *
  have l1 := g1.1
  obtain ⟨F25, d25, hw4, HF⟩ := id W1
  have fin : ∀ h' c s v p', gr (fun z => z = 23) c s h1 h' → c ≤ 60 + 19 * ws.length → s ≤ 1000 + 450 * ws.length → h'[23]? = some (mo (nI 0) (nI ws.length) p' (mq (nI J.length) (nI nx) (nI D.length) (nI K.length) (nI made) (nI st.length) nc bc kn)) → mtP ws v → gr mB (mcl T) (msl T) h h' ∧ mKp h' ad [] J nx D K made st ∧ mtP ws v := fun h' c s v p' g hc hs e q => by
    have G := gr_tr g1 (gr_mo g (fun _ q => Or.inl q) (Nat.le_refl _) (Nat.le_refl _))
    exact ⟨gr_mo G mA_B (by unfold mcl; rw [ews]; omega) (by unfold msl; rw [ews]; omega), C.rd c23 G (W1.g g).nil e, q⟩
  refine rt_k (k := 1) (pc' := 5) (L' := [some (.ref 23), none, none]) (st' := [.ref 23]) (h' := h1) (fun _ => rfl) ?_
  refine rt_gf rfl d23 rfl rfl ?_
  refine rt_k (k := 1) (pc' := 9) (L' := [some (.ref 23), none, none]) (st' := [.int (nI 1), .int (nI ws.length)]) (h' := h1) (fun _ => rfl) ?_
  refine rt_ile rfl (by omega) (by decide) (fun z => ?_) (fun z => ?_)
  ·
    have no : ¬ ∃ a us u R, ws = a :: us ∧ pVer a = some u ∧ pRng us = some (R, []) := fun ⟨a, us, u, R, e, e1, e2⟩ => by
      subst e
      have : us = [] := List.length_eq_zero_iff.mp (by rw [List.length_cons] at z; omega)
      subst this
      cases e2
    refine rt_k (k := 5) (pc' := 33) (L' := [some (.ref 23), some (.null), none]) (st' := [.int (-6)]) (h' := h1) (fun _ => rfl) ?_
    exact rt_r (v := some (.int (-6))) rfl rfl (fin h1 0 0 _ _ gr_rf (by omega) (by omega) d23 (Or.inr ⟨no, rfl⟩))
  obtain ⟨a, us, rfl⟩ : ∃ a us, ws = a :: us := by
    match ws, z with
    | [], z => simp at z
    | a :: us, _ => exact ⟨a, us, rfl⟩
  obtain ⟨aa, fa, Sa⟩ := HF 0 a rfl
  refine rt_k (k := 1) (pc' := 13) (L' := [some (.ref 23), none, none]) (st' := [.ref 23]) (h' := h1) (fun _ => rfl) ?_
  refine rt_gf rfl d23 rfl rfl ?_
  refine rt_k (k := 1) (pc' := 17) (L' := [some (.ref 23), none, none]) (st' := [.int (nI 0), .ref 25]) (h' := h1) (fun _ => rfl) ?_
  refine rt_aalN rfl d25 rfl (by omega) (by decide) fa ?_
  refine rt_k (k := 1) (pc' := 19) (L' := [some (.ref 23), none, none]) (st' := [.int (nI 0), .ref aa]) (h' := h1) (fun _ => rfl) ?_
  refine rt_c rfl rfl (m_version (f := 0) (d := d + 3) (by omega) Sa (Nat.zero_le _)) ?_
  rintro _ h2 ⟨g2, (⟨u, a', p1, rfl, p3, V1⟩ | ⟨p1, rfl⟩)⟩
  ·
    rw [List.drop_zero] at p1
    have e2 := gr_at g2 d23 id
    have l2 := g2.1
    refine rt_k (k := 6) (pc' := 36) (L' := [some (.ref 23), some (.ref a'), none]) (st' := [.int (nI 1), .ref 23]) (h' := h2) (fun _ => rfl) ?_
    refine rt_pf rfl e2 ⟨rfl, (show 4 < 24 by decide), rfl⟩ ?_
    refine rt_nm (fun h_1 e_2 => ?_)
    have f_3 : fr_ (fun z => z = 23) h2 h_1 := by rw [e_2]; exact fr_set (e' := .inr (12, [.ref 24, .int (nI 0), .ref 25, .int (nI (us.length + 1)), .int (nI 1), .ref 26, .int (nI J.length), .int (nI nx), .ref 27, .ref 28, .int (nI D.length), .ref 29, .int (nI K.length), .int (nI made), .ref 30, .ref 31, .int (nI st.length), .ref 32, .int nc, .ref 33, .ref 34, .int bc, .int kn, .ref 35])) e2 (by rfl) (by first | decide | simp)
    have n_4 : h_1.length = h2.length := by rw [e_2]; simp
    have c_5 : h_1[23]? = some (.inr (12, [.ref 24, .int (nI 0), .ref 25, .int (nI (us.length + 1)), .int (nI 1), .ref 26, .int (nI J.length), .int (nI nx), .ref 27, .ref 28, .int (nI D.length), .ref 29, .int (nI K.length), .int (nI made), .ref 30, .ref 31, .int (nI st.length), .ref 32, .int nc, .ref 33, .ref 34, .int bc, .int kn, .ref 35])) := by rw [e_2]; exact hs_self e2
    refine rt_k (k := 1) (pc' := 40) (L' := [some (.ref 23), some (.ref a'), none]) (st' := [.ref 23]) (h' := h_1) (fun _ => rfl) ?_
    have F3 := f_3
    have f23 := c_5
    have G3 : gr (fun z => z = 23) 19 450 h1 h_1 := gr_mo (gr_tr (gr_mo g2 (fun _ q => absurd q id) (Nat.le_refl _) (Nat.le_refl _)) (gr_fr F3)) (fun _ q => q) (by omega) (by omega)
    have V3 := V1.1.ex (fr_ex F3 (fun k q => by unfold zz at q; omega))
    have l3 : h_1.length = h2.length := F3.1
    generalize h_1 = h3 at *
    refine rt_cv rfl (by decide) f23 rfl rfl rfl rfl (m_range (d := d + 2) (ws := a :: us) (i := 1) (tl := nI 0) (o := (mq (nI J.length) (nI nx) (nI D.length) (nI K.length) (nI made) (nI st.length) nc bc kn)) (by omega) (W1.g G3) (by simp) f23) ?_
    rintro _ h4 (⟨R, vs, i', ra, e1, e2', e3, e4, rfl, e6, g4, B4, k23⟩ | ⟨e1, rfl, g4, p', k23⟩)
    ·
      have e1' : pRng us = some (R, vs) := e1
      have hl : (a :: us).length = us.length + 1 := rfl
      have G4 := gr_tr G3 g4
      refine rt_k (k := 4) (pc' := 49) (L' := [some (.ref 23), some (.ref a'), some (.ref ra)]) (st' := [.ref 23]) (h' := h4) (fun _ => rfl) ?_
      refine rt_gf rfl k23 rfl rfl ?_
      refine rt_k (k := 1) (pc' := 53) (L' := [some (.ref 23), some (.ref a'), some (.ref ra)]) (st' := [.ref 23, .int (nI i')]) (h' := h4) (fun _ => rfl) ?_
      refine rt_gf rfl k23 rfl rfl ?_
      refine rt_ige rfl (by omega) (by omega) (fun z5 => ?_) (fun z5 => ?_)
      rotate_left
      ·
        have no : ¬ ∃ x us' u R, a :: us = x :: us' ∧ pVer x = some u ∧ pRng us' = some (R, []) := fun ⟨x, us', u', R', y1, y2, y3⟩ => by
          cases y1
          rw [e1'] at y3
          cases y3
          have := congrArg List.length e2'
          rw [List.length_drop, hl] at this
          simp at this
          omega
        refine rt_k (k := 1) (pc' := 61) (L' := [some (.ref 23), some (.ref a'), some (.ref ra)]) (st' := [.int (-6)]) (h' := h4) (fun _ => rfl) ?_
        exact rt_r (v := some (.int (-6))) rfl rfl (fin h4 _ _ _ _ G4 (by omega) (by omega) k23 (Or.inr ⟨no, rfl⟩))
      have ev : vs = [] := by
        rw [e2']
        exact List.drop_of_length_le (by omega)
      subst ev
      have V4 := V3.ex (gr_ex g4 (fun k q => by unfold zz at q; omega))
      refine rt_k (k := 2) (pc' := 64) (L' := [some (.ref 23), some (.ref a'), some (.ref ra)]) (st' := [.ref ra, .ref a']) (h' := h4) (fun _ => rfl) ?_
      refine rt_cE rfl rfl (m_in V4 B4) ?_
      refine rt_pe rfl (fun z6 => ?_) (fun z6 => ?_)
      ·
        refine rt_k (k := 1) (pc' := 75) (L' := [some (.ref 23), some (.ref a'), some (.ref ra)]) (st' := [.int (nI 0)]) (h' := h4) (fun _ => rfl) ?_
        exact rt_r (v := some (.int (nI 0))) rfl rfl (fin h4 _ _ _ _ G4 (by omega) (by omega) k23 (Or.inl ⟨a, us, u, R, rfl, p1, e1', ret0 z6⟩))
      refine rt_k (k := 2) (pc' := 75) (L' := [some (.ref 23), some (.ref a'), some (.ref ra)]) (st' := [.int (nI 1)]) (h' := h4) (fun _ => rfl) ?_
      exact rt_r (v := some (.int (nI 1))) rfl rfl (fin h4 _ _ _ _ G4 (by omega) (by omega) k23 (Or.inl ⟨a, us, u, R, rfl, p1, e1', ret1 z6⟩))
    have hl : (a :: us).length = us.length + 1 := rfl
    have e1' : pRng us = none := e1
    have no : ¬ ∃ x us' u R, a :: us = x :: us' ∧ pVer x = some u ∧ pRng us' = some (R, []) := fun ⟨x, us', u', R', y1, y2, y3⟩ => by
      cases y1
      rw [e1'] at y3
      cases y3
    refine rt_k (k := 4) (pc' := 61) (L' := [some (.ref 23), some (.ref a'), some (.null)]) (st' := [.int (-6)]) (h' := h4) (fun _ => rfl) ?_
    exact rt_r (v := some (.int (-6))) rfl rfl (fin h4 _ _ _ _ (gr_tr G3 g4) (by omega) (by omega) k23 (Or.inr ⟨no, rfl⟩))
  rw [List.drop_zero] at p1
  have e2 := gr_at g2 d23 id
  have no : ¬ ∃ x us' u R, a :: us = x :: us' ∧ pVer x = some u ∧ pRng us' = some (R, []) := fun ⟨x, us', u', R', y1, y2, y3⟩ => by
    cases y1
    rw [p1] at y2
    cases y2
  refine rt_k (k := 5) (pc' := 33) (L' := [some (.ref 23), some (.null), none]) (st' := [.int (-6)]) (h' := h2) (fun _ => rfl) ?_
  exact rt_r (v := some (.int (-6))) rfl rfl (fin h2 _ _ _ _ (gr_mo g2 (fun _ q => absurd q id) (Nat.le_refl _) (Nat.le_refl _)) (by omega) (by omega) e2 (Or.inr ⟨no, rfl⟩))
end MT

