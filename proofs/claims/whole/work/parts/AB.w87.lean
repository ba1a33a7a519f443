/-! THE REFERENCE, 22: want, unwant. -/
section MV
variable {X : Nat × (Nat → Int32)} {d : Nat} {h : List va_E} {Q : Option Value → List va_E → Prop} {ad : Nat → Nat} {T : List Nat} {J : List kL} {nx : Nat} {D : kD} {K : List kG} {made : Nat} {st : kS}
theorem mCa.kn1 {bc bc' kn : Int32} {ad' : Nat → Nat} {J' : List kL} {D' : kD} (C : mCa h ad J D bc kn) : mCa h ad' J' D' bc' (nI 0) := by
  obtain ⟨a1, a2, a3, BF, a4, a5⟩ := C
  exact ⟨a1, a2, a3, BF, a4, Or.inl rfl⟩
/-- other roots -/
theorem mKp.ro {h' : List va_E} {D' : kD} {A : Nat → Prop} {c s : Nat} {nc bc nw' pa' : Int32} (C : mKp h ad T J nx D K made st) (G : gr A c s h h') (hA : ∀ k, A k → k = 23 ∨ k = 25 ∨ k = 27 ∨ k = 28) (hT : mT h' [] ) (W : mW h' []) (d23 : h'[23]? = some (mo (nI 0) nw' pa' (mq (nI J.length) (nI nx) (nI D'.length) (nI K.length) (nI made) (nI st.length) nc bc (nI 0)))) (CD : mD h' D') : mKp h' ad [] J nx D' K made st := by
  obtain ⟨l, ⟨nw0, pa0, nc0, bc0, kn0, c0, CA⟩, -, -, CI, -, CK, CS⟩ := C
  have E := gr_ex G (fun k q y => by have := hA k y; unfold zz at q; omega)
  have e : ∀ k, k < 39 → ¬ (k = 23 ∨ k = 25 ∨ k = 27 ∨ k = 28) → h'[k]? = h[k]? := fun k hk hn => G.2.2.2 k (by omega) (fun q => hn (hA k q))
  exact ⟨Nat.le_trans l G.1, ⟨nw', pa', _, _, _, d23, (CA.ex E (fun k h1 h2 => e k (by omega) (by omega))).kn1⟩, hT, W, CI.ex E (e 26 (by omega) (by omega)), CD, CK.ex E (e 29 (by omega) (by omega)), CS.ex E (e 30 (by omega) (by omega)) (e 31 (by omega) (by omega))⟩
theorem mT.nil {h' : List va_E} (C : mT h T) (e : h'[24]? = h[24]?) : mT h' [] := by
  obtain ⟨⟨g, t1, t2⟩, t3, t4⟩ := C
  exact ⟨⟨g, e.trans t1, fun j hj => absurd hj (Nat.not_lt_zero _)⟩, Nat.zero_le _, fun c hc => by cases hc⟩
theorem m_unwant (C : mKp h ad T J nx D K made st) : rt_ X (d + 6) 155 0 [some (.ref 23), none, none] [] h (fun v h' => gr mB (mcl T) (msl T) h h' ∧ ∃ D', mKp h' ad [] J nx D' K made st ∧ uwR (wl T) D v D') := by
  obtain ⟨l39, ⟨nw, pa, nc, bc, kn, c23, CA⟩, ⟨⟨g, t1, t2⟩, t3, t4⟩, W, CI, CD, -⟩ := id C
  refine rt_k (k := 1) (pc' := 1) (L' := [some (.ref 23), none, none]) (st' := [.ref 23]) (h' := h) (fun _ => rfl) ?_
  refine rt_cv rfl (by decide) c23 rfl rfl rfl rfl (m_readWords l39 c23 t1 t2 ⟨t3, t4⟩ W) ?_
  rintro _ h1 ⟨rfl, g1, d23, W1⟩
  generalize ews : wl T = ws at *
  have l1 := g1.1
  obtain ⟨F25, d25, hw4, HF⟩ := id W1
  have E1 := gr_ex g1 mA_zz
  have CD1 : mD h1 D := CD.ex E1 (g1.2.2.2 27 (by omega) (by decide)) (g1.2.2.2 28 (by omega) (by decide))
  have fin : ∀ v, uwR ws D v D → gr mB (mcl T) (msl T) h h1 ∧ ∃ D', mKp h1 ad [] J nx D' K made st ∧ uwR ws D v D' := fun v q => ⟨gr_mo g1 mA_B (by unfold mcl; omega) (by unfold msl; omega), D, C.rd c23 g1 W1.nil d23, q⟩
  refine rt_k (k := 1) (pc' := 5) (L' := [some (.ref 23), none, none]) (st' := [.ref 23]) (h' := h1) (fun _ => rfl) ?_
  refine rt_gf rfl d23 rfl rfl ?_
  refine rt_k (k := 1) (pc' := 9) (L' := [some (.ref 23), none, none]) (st' := [.int (nI 1), .int (nI ws.length)]) (h' := h1) (fun _ => rfl) ?_
  refine rt_ine rfl (by omega) (by decide) (fun z => ?_) (fun z => ?_)
  ·
    refine rt_k (k := 1) (pc' := 24) (L' := [some (.ref 23), none, none]) (st' := [.int (-6)]) (h' := h1) (fun _ => rfl) ?_
    exact rt_r (v := some (.int (-6))) rfl rfl (fin _ (Or.inl ⟨(fun ⟨w, e, _⟩ => z (by rw [e]; rfl)), rfl, rfl⟩))
  obtain ⟨w, rfl⟩ : ∃ w, ws = [w] := by
    match ws, z with
    | [w], _ => exact ⟨w, rfl⟩
    | [], z => simp at z
    | _ :: _ :: _, z => simp at z
  obtain ⟨wa, fw, Sw⟩ := HF 0 w rfl
  refine rt_k (k := 1) (pc' := 13) (L' := [some (.ref 23), none, none]) (st' := [.ref 23]) (h' := h1) (fun _ => rfl) ?_
  refine rt_cvE rfl (by decide) d23 rfl rfl rfl rfl (m_here1 (ws := [w]) (i := 0) (tl := nI 0) (o := (mq (nI J.length) (nI nx) (nI D.length) (nI K.length) (nI made) (nI st.length) nc bc kn)) d23 d25 hw4 (by simp) fw) ?_
  refine rt_cE rfl rfl (m_isName Sw) ?_
  refine rt_pn rfl (fun z1 => ?_) (fun z1 => ?_)
  rotate_left
  ·
    refine rt_k (k := 1) (pc' := 24) (L' := [some (.ref 23), none, none]) (st' := [.int (-6)]) (h' := h1) (fun _ => rfl) ?_
    exact rt_r (v := some (.int (-6))) rfl rfl (fin _ (Or.inl ⟨(fun ⟨w', e, e1⟩ => by cases e; exact z1 e1), rfl, rfl⟩))
  refine rt_k (k := 2) (pc' := 27) (L' := [some (.ref 23), none, none]) (st' := [.ref 23, .ref 23]) (h' := h1) (fun _ => rfl) ?_
  refine rt_cvE rfl (by decide) d23 rfl rfl rfl rfl (m_here1 (ws := [w]) (i := 0) (tl := nI 0) (o := (mq (nI J.length) (nI nx) (nI D.length) (nI K.length) (nI made) (nI st.length) nc bc kn)) d23 d25 hw4 (by simp) fw) ?_
  refine rt_cvH rfl (by decide) d23 rfl rfl rfl rfl (m_rootOf (o := (mq (nI J.length) (nI nx) (nI D.length) (nI K.length) (nI made) (nI st.length) nc bc kn)) (x := nI 0) (y := nI 1) (z := nI 0) d23 rfl CD1 Sw) ?_
  rintro _ (⟨p, e, hp, q1, q2, rfl⟩ | ⟨q1, rfl⟩)
  rotate_left
  · have t0 := trivial
    refine rt_k (k := 4) (pc' := 40) (L' := [some (.ref 23), some (.int (-1)), none]) (st' := [.int (-2)]) (h' := h1) (fun _ => rfl) ?_
    exact rt_r (v := some (.int (-2))) rfl rfl (fin _ (Or.inr ⟨w, rfl, z1, Or.inl ⟨q1, rfl, rfl⟩⟩))
  have lp := gt_lt hp
  obtain ⟨NF, RF, e27, e28, hd6, HD⟩ := id CD1
  refine rt_k (k := 2) (pc' := 35) (L' := [some (.ref 23), some (.int (nI p)), none]) (st' := [.int (nI p)]) (h' := h1) (fun _ => rfl) ?_
  refine rt_zge rfl (by omega) ?_
  refine rt_k (k := 2) (pc' := 43) (L' := [some (.ref 23), some (.int (nI p)), none]) (st' := [.ref 23, .ref 23]) (h' := h1) (fun _ => rfl) ?_
  refine rt_gf rfl d23 rfl rfl ?_
  refine rt_k (k := 1) (pc' := 47) (L' := [some (.ref 23), some (.int (nI p)), none]) (st' := [.int (nI 1), .int (nI D.length), .ref 23]) (h' := h1) (fun _ => rfl) ?_
  refine rt_sub rfl (by omega) ?_
  refine rt_pf rfl d23 ⟨rfl, (show 10 < 24 by decide), rfl⟩ ?_
  refine rt_nm (fun h_1 e_2 => ?_)
  have f_3 : fr_ (fun z => z = 23) h1 h_1 := by rw [e_2]; exact fr_set (e' := .inr (12, [.ref 24, .int (nI 0), .ref 25, .int (nI 1), .int (nI 0), .ref 26, .int (nI J.length), .int (nI nx), .ref 27, .ref 28, .int (nI (D.length - 1)), .ref 29, .int (nI K.length), .int (nI made), .ref 30, .ref 31, .int (nI st.length), .ref 32, .int nc, .ref 33, .ref 34, .int bc, .int kn, .ref 35])) d23 (by rfl) (by first | decide | simp)
  have n_4 : h_1.length = h1.length := by rw [e_2]; simp
  have c_5 : h_1[23]? = some (.inr (12, [.ref 24, .int (nI 0), .ref 25, .int (nI 1), .int (nI 0), .ref 26, .int (nI J.length), .int (nI nx), .ref 27, .ref 28, .int (nI (D.length - 1)), .ref 29, .int (nI K.length), .int (nI made), .ref 30, .ref 31, .int (nI st.length), .ref 32, .int nc, .ref 33, .ref 34, .int bc, .int kn, .ref 35])) := by rw [e_2]; exact hs_self d23
  have c_6 : h_1[27]? = some (.inl (9, 6, .inr (.inr (.inr (.inr NF))))) := by rw [e_2]; exact hs_ne e27 (by decide)
  have c_7 : h_1[28]? = some (.inl (11, 6, .inr (.inr (.inr (.inr RF))))) := by rw [e_2]; exact hs_ne e28 (by decide)
  refine rt_k (k := 2) (pc' := 53) (L' := [some (.ref 23), some (.int (nI p)), some (.int (nI p))]) (st' := []) (h' := h_1) (fun _ => rfl) ?_
  have F2 := f_3
  have k23 := c_5
  have k27 := c_6
  have k28 := c_7
  have HD2 := HD.ex (fr_ex F2 (fun k q => by unfold zz at q; omega))
  rw [← shf_0 NF p] at k27
  rw [← shf_0 RF p] at k28
  generalize h_1 = h2 at *
  refine m_uw1 p lp hd6 p (Nat.le_refl _) (by omega) h2 (o := (mq (nI J.length) (nI nx) (nI (D.length - 1)) (nI K.length) (nI made) (nI st.length) nc bc kn)) k23 rfl k27 k28 HD2 _ (fun h3 F3 m27 m28 => ?_)
  have E3 := fr_ex F3 (fun k q => by unfold zz at q; omega)
  have k23' := fr_at F3 (by decide) k23
  refine rt_k (k := 2) (pc' := 97) (L' := [some (.ref 23), some (.int (nI p)), some (.int (nI (D.length - 1)))]) (st' := [.int (nI 0), .ref 23]) (h' := h3) (fun _ => rfl) ?_
  refine rt_pf rfl k23' ⟨rfl, (show 22 < 24 by decide), rfl⟩ ?_
  refine rt_nm (fun h_8 e_9 => ?_)
  have f_10 : fr_ (fun z => z = 23) h3 h_8 := by rw [e_9]; exact fr_set (e' := .inr (12, [.ref 24, .int (nI 0), .ref 25, .int (nI 1), .int (nI 0), .ref 26, .int (nI J.length), .int (nI nx), .ref 27, .ref 28, .int (nI (D.length - 1)), .ref 29, .int (nI K.length), .int (nI made), .ref 30, .ref 31, .int (nI st.length), .ref 32, .int nc, .ref 33, .ref 34, .int bc, .int (nI 0), .ref 35])) k23' (by rfl) (by first | decide | simp)
  have n_11 : h_8.length = h3.length := by rw [e_9]; simp
  have c_12 : h_8[23]? = some (.inr (12, [.ref 24, .int (nI 0), .ref 25, .int (nI 1), .int (nI 0), .ref 26, .int (nI J.length), .int (nI nx), .ref 27, .ref 28, .int (nI (D.length - 1)), .ref 29, .int (nI K.length), .int (nI made), .ref 30, .ref 31, .int (nI st.length), .ref 32, .int nc, .ref 33, .ref 34, .int bc, .int (nI 0), .ref 35])) := by rw [e_9]; exact hs_self k23'
  refine rt_k (k := 1) (pc' := 101) (L' := [some (.ref 23), some (.int (nI p)), some (.int (nI (D.length - 1)))]) (st' := [.ref 23]) (h' := h_8) (fun _ => rfl) ?_
  refine rt_gf rfl c_12 rfl rfl ?_
  have F4 := f_10
  have G4 : gr (fun z => z = 23 ∨ z = 25 ∨ z = 27 ∨ z = 28) (2 * T.length) (5 * T.length) h h_8 := gr_mo (gr_tr (gr_mo g1 (fun k q => by unfold mA at q; omega) (Nat.le_refl _) (Nat.le_refl _)) (gr_fr (fr_tr (fr_tr (fr_mo F2 (fun k q => Or.inl q)) (fr_mo F3 (fun k q => by omega))) (fr_mo F4 (fun k q => Or.inl q))))) (fun _ q => q) (by omega) (by omega)
  have el : (D.eraseIdx p).length = D.length - 1 := List.length_eraseIdx_of_lt lp
  have E4 := fr_ex F4 (fun k q => by unfold zz at q; omega)
  have W4 : mW h_8 [] := by
    obtain ⟨F, a, -, -⟩ := W1
    exact ⟨F, fr_at F4 (by decide) (fr_at F3 (by decide) (fr_at F2 (by decide) a)), Nat.zero_le _, fun i w hw => by simp at hw⟩
  have T4 : mT h_8 [] := C.2.2.1.nil (G4.2.2.2 24 (by omega) (by decide))
  have DD : mD h_8 (D.eraseIdx p) := ⟨_, _, fr_at F4 (by decide) m27, fr_at F4 (by decide) m28, by rw [el]; omega, yDf_era ((HD2.ex E3).ex E4)⟩
  have d4 := c_12
  rw [← el] at d4
  exact rt_r (v := some (.int (nI (D.length - 1)))) rfl rfl (⟨gr_mo G4 (fun k q => by unfold mB; omega) (by unfold mcl; omega) (by unfold msl; omega), D.eraseIdx p, C.ro G4 (fun k q => q) T4 W4 d4 DD, Or.inr ⟨w, rfl, z1, Or.inr ⟨p, e, hp, q1, q2, rfl, rfl⟩⟩⟩)
theorem yDf_set {NF RF : Nat → Option Nat} {p nb ra : Nat} {n : kW} {R : kR} (HD : yDf 0 h NF RF D) (S : sS h nb n) (Y : yR 0 h ra R) : yDf 0 h (va_up NF p (some nb)) (va_up RF p (some ra)) (D.set p (n, R)) := fun i e he => by
  unfold va_up
  rcases gt_set he with ⟨q1, q2⟩ | ⟨q1, q2⟩
  · rw [if_neg q1, if_neg q1]; exact HD i e q2
  · rw [if_pos q1, if_pos q1, q2]; exact ⟨⟨nb, rfl, S⟩, ra, rfl, Y⟩
theorem m_want (C : mKp h ad T J nx D K made st) : rt_ X (d + 8) 153 0 [some (.ref 23), none, none, none] [] h (fun v h' => gr mB (mcl T) (msl T) h h' ∧ ∃ D', mKp h' ad [] J nx D' K made st ∧ wnR (wl T) D v D') := by
  obtain ⟨l39, ⟨nw, pa, nc, bc, kn, c23, CA⟩, ⟨⟨g, t1, t2⟩, t3, t4⟩, W, CI, CD, -⟩ := id C
  refine rt_k (k := 1) (pc' := 1) (L' := [some (.ref 23), none, none, none]) (st' := [.ref 23]) (h' := h) (fun _ => rfl) ?_
  refine rt_cv rfl (by decide) c23 rfl rfl rfl rfl (m_readWords l39 c23 t1 t2 ⟨t3, t4⟩ W) ?_
  rintro _ h1 ⟨rfl, g1, d23, W1⟩
  generalize ews : wl T = ws at *
  have l1 := g1.1
  obtain ⟨F25, d25, hw4, HF⟩ := id W1
  have E1 := gr_ex g1 mA_zz
  have CD1 : mD h1 D := CD.ex E1 (g1.2.2.2 27 (by omega) (by decide)) (g1.2.2.2 28 (by omega) (by decide))
  have fin : ∀ h' c s v p', gr (fun z => z = 23) c s h1 h' → c ≤ 60 + 19 * ws.length → s ≤ 1000 + 450 * ws.length → h'[23]? = some (mo (nI 0) (nI ws.length) p' (mq (nI J.length) (nI nx) (nI D.length) (nI K.length) (nI made) (nI st.length) nc bc kn)) → wnR ws D v D → gr mB (mcl T) (msl T) h h' ∧ ∃ D', mKp h' ad [] J nx D' K made st ∧ wnR ws D v D' := fun h' c s v p' g hc hs e q => by
    have G := gr_tr g1 (gr_mo g (fun _ q => Or.inl q) (Nat.le_refl _) (Nat.le_refl _))
    exact ⟨gr_mo G mA_B (by unfold mcl; rw [ews]; omega) (by unfold msl; rw [ews]; omega), D, C.rd c23 G (W1.g g).nil e, q⟩
  by_cases hl : 0 < ws.length
  rotate_left
  · have e0 : ws = [] := List.length_eq_zero_iff.mp (by omega)
    subst e0
    refine rt_k (k := 1) (pc' := 5) (L' := [some (.ref 23), none, none, none]) (st' := [.ref 23]) (h' := h1) (fun _ => rfl) ?_
    refine rt_cvE rfl (by decide) d23 rfl rfl rfl rfl (m_here0 (ws := []) (i := 0) (tl := nI 0) (o := (mq (nI J.length) (nI nx) (nI D.length) (nI K.length) (nI made) (nI st.length) nc bc kn)) d23 hw4 rfl) ?_
    refine rt_cE rfl rfl m_isName0 ?_
    refine rt_pn rfl (fun z => absurd z ((by decide))) (fun _ => ?_)
    refine rt_k (k := 1) (pc' := 16) (L' := [some (.ref 23), none, none, none]) (st' := [.int (-6)]) (h' := h1) (fun _ => rfl) ?_
    exact rt_r (v := some (.int (-6))) rfl rfl (fin h1 0 0 _ _ gr_rf (by omega) (by omega) d23 (Or.inl ⟨(fun ⟨w, us, R, e, _⟩ => by cases e), rfl, rfl⟩))
  obtain ⟨w, us, rfl⟩ : ∃ w us, ws = w :: us := by
    match ws, hl with
    | [], hl => simp at hl
    | w :: us, _ => exact ⟨w, us, rfl⟩
  have hlc : (w :: us).length = us.length + 1 := rfl
  obtain ⟨wa, fw, Sw⟩ := HF 0 w rfl
  refine rt_k (k := 1) (pc' := 5) (L' := [some (.ref 23), none, none, none]) (st' := [.ref 23]) (h' := h1) (fun _ => rfl) ?_
  refine rt_cvE rfl (by decide) d23 rfl rfl rfl rfl (m_here1 (ws := w :: us) (i := 0) (tl := nI 0) (o := (mq (nI J.length) (nI nx) (nI D.length) (nI K.length) (nI made) (nI st.length) nc bc kn)) d23 d25 hw4 (by simp) fw) ?_
  refine rt_cE rfl rfl (m_isName Sw) ?_
  refine rt_pn rfl (fun z1 => ?_) (fun z1 => ?_)
  rotate_left
  ·
    refine rt_k (k := 1) (pc' := 16) (L' := [some (.ref 23), none, none, none]) (st' := [.int (-6)]) (h' := h1) (fun _ => rfl) ?_
    exact rt_r (v := some (.int (-6))) rfl rfl (fin h1 0 0 _ _ gr_rf (by omega) (by omega) d23 (Or.inl ⟨(fun ⟨w', us', R, e, e1, _⟩ => by cases e; exact z1 e1), rfl, rfl⟩))
  refine rt_k (k := 1) (pc' := 18) (L' := [some (.ref 23), none, none, none]) (st' := [.ref 23]) (h' := h1) (fun _ => rfl) ?_
  refine rt_cvE rfl (by decide) d23 rfl rfl rfl rfl (m_here1 (ws := w :: us) (i := 0) (tl := nI 0) (o := (mq (nI J.length) (nI nx) (nI D.length) (nI K.length) (nI made) (nI st.length) nc bc kn)) d23 d25 hw4 (by simp) fw) ?_
  refine rt_k (k := 3) (pc' := 24) (L' := [some (.ref 23), some (.ref wa), none, none]) (st' := [.ref 23, .ref 23]) (h' := h1) (fun _ => rfl) ?_
  refine rt_gf rfl d23 rfl rfl ?_
  refine rt_k (k := 1) (pc' := 28) (L' := [some (.ref 23), some (.ref wa), none, none]) (st' := [.int (nI 1), .int (nI 0), .ref 23]) (h' := h1) (fun _ => rfl) ?_
  refine rt_add rfl ?_
  refine rt_pf rfl d23 ⟨rfl, (show 4 < 24 by decide), rfl⟩ ?_
  refine rt_nm (fun h_13 e_14 => ?_)
  have f_15 : fr_ (fun z => z = 23) h1 h_13 := by rw [e_14]; exact fr_set (e' := .inr (12, [.ref 24, .int (nI 0), .ref 25, .int (nI (us.length + 1)), .int (nI 1), .ref 26, .int (nI J.length), .int (nI nx), .ref 27, .ref 28, .int (nI D.length), .ref 29, .int (nI K.length), .int (nI made), .ref 30, .ref 31, .int (nI st.length), .ref 32, .int nc, .ref 33, .ref 34, .int bc, .int kn, .ref 35])) d23 (by rfl) (by first | decide | simp)
  have n_16 : h_13.length = h1.length := by rw [e_14]; simp
  have c_17 : h_13[23]? = some (.inr (12, [.ref 24, .int (nI 0), .ref 25, .int (nI (us.length + 1)), .int (nI 1), .ref 26, .int (nI J.length), .int (nI nx), .ref 27, .ref 28, .int (nI D.length), .ref 29, .int (nI K.length), .int (nI made), .ref 30, .ref 31, .int (nI st.length), .ref 32, .int nc, .ref 33, .ref 34, .int bc, .int kn, .ref 35])) := by rw [e_14]; exact hs_self d23
  refine rt_k (k := 1) (pc' := 33) (L' := [some (.ref 23), some (.ref wa), none, none]) (st' := [.ref 23]) (h' := h_13) (fun _ => rfl) ?_
  have F2 := f_15
  have f23 := c_17
  have G2 : gr (fun z => z = 23) 0 0 h1 h_13 := gr_fr F2
  have l2 : h_13.length = h1.length := F2.1
  generalize h_13 = h2 at *
  refine rt_cv rfl (by decide) f23 rfl rfl rfl rfl (m_range (ws := w :: us) (i := 1) (tl := nI 0) (o := (mq (nI J.length) (nI nx) (nI D.length) (nI K.length) (nI made) (nI st.length) nc bc kn)) (by omega) (W1.g G2) (by simp) f23) ?_
  rintro _ h3 (⟨R, vs, i', ra, e1, e2', e3, e4, rfl, e6, g3, B3, k23⟩ | ⟨e1, rfl, g3, p', k23⟩)
  ·
    have e1' : pRng us = some (R, vs) := e1
    have G3 := gr_tr G2 g3
    refine rt_k (k := 4) (pc' := 42) (L' := [some (.ref 23), some (.ref wa), some (.ref ra), none]) (st' := [.ref 23]) (h' := h3) (fun _ => rfl) ?_
    refine rt_gf rfl k23 rfl rfl ?_
    refine rt_k (k := 1) (pc' := 46) (L' := [some (.ref 23), some (.ref wa), some (.ref ra), none]) (st' := [.ref 23, .int (nI i')]) (h' := h3) (fun _ => rfl) ?_
    refine rt_gf rfl k23 rfl rfl ?_
    refine rt_ige rfl (by omega) (by omega) (fun z5 => ?_) (fun z5 => ?_)
    rotate_left
    ·
      have no : ¬ ∃ x us' R, w :: us = x :: us' ∧ isNm x = true ∧ pRng us' = some (R, []) := fun ⟨x, us', R', y1, y2, y3⟩ => by
        cases y1
        rw [e1'] at y3
        cases y3
        have := congrArg List.length e2'
        rw [List.length_drop, hlc] at this
        simp at this
        omega
      refine rt_k (k := 1) (pc' := 54) (L' := [some (.ref 23), some (.ref wa), some (.ref ra), none]) (st' := [.int (-6)]) (h' := h3) (fun _ => rfl) ?_
      exact rt_r (v := some (.int (-6))) rfl rfl (fin h3 _ _ _ _ G3 (by omega) (by omega) k23 (Or.inl ⟨no, rfl, rfl⟩))
    have ev : vs = [] := by
      rw [e2']
      exact List.drop_of_length_le (by omega)
    subst ev
    have E3 := gr_ex G3 (fun k q => by unfold zz at q; omega)
    have l3 := G3.1
    have Sw3 := Sw.ex E3
    have CD3 : mD h3 D := CD1.ex E3 (G3.2.2.2 27 (by omega) (by decide)) (G3.2.2.2 28 (by omega) (by decide))
    obtain ⟨NF, RF, e27, e28, hd6, HD⟩ := id CD3
    have B0 : yR 0 h3 ra R := B3.mo (Nat.zero_le _)
    obtain ⟨wv, wx, wy, wc, -, -⟩ := Sw3.at
    obtain ⟨sg, ve, ts, S', F', N', ⟨-, rc⟩, -⟩ := id B0
    have Wn : ∀ h9, fr_ (fun z => z = 23 ∨ z = 27 ∨ z = 28) h3 h9 → mW h9 [] := fun h9 F9 => by
      obtain ⟨F, a, -, -⟩ := W1.g G3
      exact ⟨F, fr_at F9 (by decide) a, Nat.zero_le _, fun i w hw => by simp at hw⟩
    -- the two rows are written
    have put : ∀ (p n : Nat) (h4 : List va_E) (D' : kD) (v : Option Value), fr_ (fun z => z = 23) h3 h4 → p < 6 → n ≤ 6 → h4[23]? = some (mo (nI 0) (nI (us.length + 1)) (nI i') (mq (nI J.length) (nI nx) (nI n) (nI K.length) (nI made) (nI st.length) nc bc kn)) → D'.length = n → (∀ h9, yDf 0 h9 NF RF D → sS h9 wa w → yR 0 h9 ra R → yDf 0 h9 (va_up NF p (some wa)) (va_up RF p (some ra)) D') → wnR (w :: us) D (some (.int (nI n))) D' → rt_ X (d + 8) 153 96 [some (.ref 23), some (.ref wa), some (.ref ra), some (.int (nI p))] [] h4 (fun v h' => gr mB (mcl T) (msl T) h h' ∧ ∃ D', mKp h' ad [] J nx D' K made st ∧ wnR (w :: us) D v D') := fun p n h4 D' v F4 hp hn b23 hD' HH sp => by
      have b27 := fr_at F4 (by decide) e27
      have b28 := fr_at F4 (by decide) e28
      have E4 := fr_ex F4 (fun k q => by unfold zz at q; omega)
      have wc4 := fr_at F4 (by have := Sw3.choose_spec.choose_spec.choose_spec.1.1; unfold zz at this; omega) wc
      have rc4 := fr_at F4 (by have := B0.choose_spec.choose_spec.choose_spec.choose_spec.choose_spec.choose_spec.1.1; unfold zz at this; omega) rc
      refine rt_k (k := 1) (pc' := 97) (L' := [some (.ref 23), some (.ref wa), some (.ref ra), some (.int (nI p))]) (st' := [.ref 23]) (h' := h4) (fun _ => rfl) ?_
      refine rt_gf rfl b23 rfl rfl ?_
      refine rt_k (k := 2) (pc' := 102) (L' := [some (.ref 23), some (.ref wa), some (.ref ra), some (.int (nI p))]) (st' := [.ref wa, .int (nI p), .ref 27]) (h' := h4) (fun _ => rfl) ?_
      refine rt_aasN rfl b27 wc4 ⟨rfl, rfl⟩ (by omega) (by decide) ?_
      refine rt_nm (fun h_18 e_19 => ?_)
      have f_20 : fr_ (fun z => z = 23 ∨ z = 27 ∨ z = 28) h4 h_18 := by rw [e_19]; exact fr_set (e' := .inl (9, 6, .inr (.inr (.inr (.inr (va_up NF p (some wa))))))) b27 (by rfl) (by first | decide | simp)
      have n_21 : h_18.length = h4.length := by rw [e_19]; simp
      have c_22 : h_18[23]? = some (.inr (12, [.ref 24, .int (nI 0), .ref 25, .int (nI (us.length + 1)), .int (nI i'), .ref 26, .int (nI J.length), .int (nI nx), .ref 27, .ref 28, .int (nI n), .ref 29, .int (nI K.length), .int (nI made), .ref 30, .ref 31, .int (nI st.length), .ref 32, .int nc, .ref 33, .ref 34, .int bc, .int kn, .ref 35])) := by rw [e_19]; exact hs_ne b23 (by decide)
      have c_23 : h_18[27]? = some (.inl (9, 6, .inr (.inr (.inr (.inr (va_up NF p (some wa))))))) := by rw [e_19]; exact hs_self b27
      have c_24 : h_18[28]? = some (.inl (11, 6, .inr (.inr (.inr (.inr RF))))) := by rw [e_19]; exact hs_ne b28 (by decide)
      have c_25 : h_18[wa]? = some (.inr (17, [.ref wv, .int (nI 0), .int wx, .int wy])) := by rw [e_19]; exact hs_ne wc4 (hc_ne b27 wc4 (by intro q; cases q))
      have c_26 : h_18[ra]? = some (.inr (16, [.ref sg, .ref ve, .ref ts, .int (nI R.length)])) := by rw [e_19]; exact hs_ne rc4 (hc_ne b27 rc4 (by intro q; cases q))
      refine rt_k (k := 1) (pc' := 104) (L' := [some (.ref 23), some (.ref wa), some (.ref ra), some (.int (nI p))]) (st' := [.ref 23]) (h' := h_18) (fun _ => rfl) ?_
      refine rt_gf rfl c_22 rfl rfl ?_
      refine rt_k (k := 2) (pc' := 109) (L' := [some (.ref 23), some (.ref wa), some (.ref ra), some (.int (nI p))]) (st' := [.ref ra, .int (nI p), .ref 28]) (h' := h_18) (fun _ => rfl) ?_
      refine rt_aasN rfl c_24 c_26 ⟨rfl, rfl⟩ (by omega) (by decide) ?_
      refine rt_nm (fun h_27 e_28 => ?_)
      have f_29 : fr_ (fun z => z = 23 ∨ z = 27 ∨ z = 28) h4 h_27 := by rw [e_28]; exact fr_tr f_20 (fr_set (e' := .inl (11, 6, .inr (.inr (.inr (.inr (va_up RF p (some ra))))))) c_24 (by rfl) (by first | decide | simp))
      have n_30 : h_27.length = h_18.length := by rw [e_28]; simp
      have c_31 : h_27[23]? = some (.inr (12, [.ref 24, .int (nI 0), .ref 25, .int (nI (us.length + 1)), .int (nI i'), .ref 26, .int (nI J.length), .int (nI nx), .ref 27, .ref 28, .int (nI n), .ref 29, .int (nI K.length), .int (nI made), .ref 30, .ref 31, .int (nI st.length), .ref 32, .int nc, .ref 33, .ref 34, .int bc, .int kn, .ref 35])) := by rw [e_28]; exact hs_ne c_22 (by decide)
      have c_32 : h_27[27]? = some (.inl (9, 6, .inr (.inr (.inr (.inr (va_up NF p (some wa))))))) := by rw [e_28]; exact hs_ne c_23 (by decide)
      have c_33 : h_27[28]? = some (.inl (11, 6, .inr (.inr (.inr (.inr (va_up RF p (some ra))))))) := by rw [e_28]; exact hs_self c_24
      have c_34 : h_27[wa]? = some (.inr (17, [.ref wv, .int (nI 0), .int wx, .int wy])) := by rw [e_28]; exact hs_ne c_25 (hc_ne c_24 c_25 (by intro q; cases q))
      have c_35 : h_27[ra]? = some (.inr (16, [.ref sg, .ref ve, .ref ts, .int (nI R.length)])) := by rw [e_28]; exact hs_ne c_26 (hc_ne c_24 c_26 (by intro q; cases q))
      refine rt_k (k := 2) (pc' := 112) (L' := [some (.ref 23), some (.ref wa), some (.ref ra), some (.int (nI p))]) (st' := [.int (nI 0), .ref 23]) (h' := h_27) (fun _ => rfl) ?_
      refine rt_pf rfl c_31 ⟨rfl, (show 22 < 24 by decide), rfl⟩ ?_
      refine rt_nm (fun h_36 e_37 => ?_)
      have f_38 : fr_ (fun z => z = 23 ∨ z = 27 ∨ z = 28) h4 h_36 := by rw [e_37]; exact fr_tr f_29 (fr_set (e' := .inr (12, [.ref 24, .int (nI 0), .ref 25, .int (nI (us.length + 1)), .int (nI i'), .ref 26, .int (nI J.length), .int (nI nx), .ref 27, .ref 28, .int (nI n), .ref 29, .int (nI K.length), .int (nI made), .ref 30, .ref 31, .int (nI st.length), .ref 32, .int nc, .ref 33, .ref 34, .int bc, .int (nI 0), .ref 35])) c_31 (by rfl) (by first | decide | simp))
      have n_39 : h_36.length = h_27.length := by rw [e_37]; simp
      have c_40 : h_36[23]? = some (.inr (12, [.ref 24, .int (nI 0), .ref 25, .int (nI (us.length + 1)), .int (nI i'), .ref 26, .int (nI J.length), .int (nI nx), .ref 27, .ref 28, .int (nI n), .ref 29, .int (nI K.length), .int (nI made), .ref 30, .ref 31, .int (nI st.length), .ref 32, .int nc, .ref 33, .ref 34, .int bc, .int (nI 0), .ref 35])) := by rw [e_37]; exact hs_self c_31
      have c_41 : h_36[27]? = some (.inl (9, 6, .inr (.inr (.inr (.inr (va_up NF p (some wa))))))) := by rw [e_37]; exact hs_ne c_32 (by decide)
      have c_42 : h_36[28]? = some (.inl (11, 6, .inr (.inr (.inr (.inr (va_up RF p (some ra))))))) := by rw [e_37]; exact hs_ne c_33 (by decide)
      have c_43 : h_36[wa]? = some (.inr (17, [.ref wv, .int (nI 0), .int wx, .int wy])) := by rw [e_37]; exact hs_ne c_34 (hc_ne c_31 c_34 (by intro q; cases q))
      have c_44 : h_36[ra]? = some (.inr (16, [.ref sg, .ref ve, .ref ts, .int (nI R.length)])) := by rw [e_37]; exact hs_ne c_35 (hc_ne c_31 c_35 (by intro q; cases q))
      refine rt_k (k := 1) (pc' := 116) (L' := [some (.ref 23), some (.ref wa), some (.ref ra), some (.int (nI p))]) (st' := [.ref 23]) (h' := h_36) (fun _ => rfl) ?_
      refine rt_gf rfl c_40 rfl rfl ?_
      have F5 := f_38
      have F35 := fr_tr (fr_mo F4 (fun k q => Or.inl q)) F5
      have G5 : gr (fun z => z = 23 ∨ z = 25 ∨ z = 27 ∨ z = 28) (mcl T) (msl T) h h_36 := gr_mo (gr_tr (gr_tr (gr_mo g1 (fun k q => by unfold mA at q; omega) (Nat.le_refl _) (Nat.le_refl _)) (gr_mo G3 (fun k q => Or.inl q) (Nat.le_refl _) (Nat.le_refl _))) (gr_mo (gr_fr F35) (fun k q => by omega) (Nat.le_refl _) (Nat.le_refl _))) (fun _ q => q) (by unfold mcl; rw [ews]; omega) (by unfold msl; rw [ews]; omega)
      have E5 := fr_ex F35 (fun k q => by unfold zz at q; omega)
      have T5 : mT h_36 [] := C.2.2.1.nil (G5.2.2.2 24 (by omega) (by decide))
      have DD : mD h_36 D' := ⟨_, _, c_41, c_42, by omega, HH _ (HD.ex E5) (Sw3.ex E5) (B0.ex E5)⟩
      have d4 := c_40
      rw [← hD'] at d4
      exact rt_r (v := some (.int (nI n))) rfl rfl (⟨gr_mo G5 (fun k q => by unfold mB; omega) (Nat.le_refl _) (Nat.le_refl _), D', C.ro G5 (fun k q => q) T5 (Wn _ F35) d4 DD, sp⟩)
    refine rt_k (k := 2) (pc' := 57) (L' := [some (.ref 23), some (.ref wa), some (.ref ra), none]) (st' := [.ref wa, .ref 23]) (h' := h3) (fun _ => rfl) ?_
    refine rt_cvH rfl (by decide) k23 rfl rfl rfl rfl (m_rootOf (o := (mq (nI J.length) (nI nx) (nI D.length) (nI K.length) (nI made) (nI st.length) nc bc kn)) (x := nI 0) (y := nI (us.length + 1)) (z := nI i') k23 rfl CD3 Sw3) ?_
    rintro _ (⟨p, e, hp, q1, q2, rfl⟩ | ⟨q1, rfl⟩)
    · have lp := gt_lt hp
      refine rt_k (k := 2) (pc' := 62) (L' := [some (.ref 23), some (.ref wa), some (.ref ra), some (.int (nI p))]) (st' := [.int (nI p)]) (h' := h3) (fun _ => rfl) ?_
      refine rt_zge rfl (by omega) ?_
      refine rt_k (k := 1) (pc' := 78) (L' := [some (.ref 23), some (.ref wa), some (.ref ra), some (.int (nI p))]) (st' := [.int (nI p)]) (h' := h3) (fun _ => rfl) ?_
      refine rt_zge rfl (by omega) ?_
      exact put p D.length h3 (D.set p (w, R)) (some (.int (nI D.length))) fr_rf (by omega) hd6 k23 (List.length_set ..) (fun h9 => yDf_set) (Or.inr ⟨w, us, R, rfl, z1, e1', Or.inr (Or.inr ⟨p, e, hp, q1, q2, rfl, rfl⟩)⟩)
    · have t0 := trivial
      refine rt_k (k := 4) (pc' := 66) (L' := [some (.ref 23), some (.ref wa), some (.ref ra), some (.int (-1))]) (st' := [.ref 23]) (h' := h3) (fun _ => rfl) ?_
      refine rt_gf rfl k23 rfl rfl ?_
      refine rt_k (k := 1) (pc' := 71) (L' := [some (.ref 23), some (.ref wa), some (.ref ra), some (.int (-1))]) (st' := [.int (nI 6), .int (nI D.length)]) (h' := h3) (fun _ => rfl) ?_
      refine rt_ine rfl (by omega) (by decide) (fun z6 => ?_) (fun z6 => ?_)
      rotate_left
      ·
        refine rt_k (k := 1) (pc' := 76) (L' := [some (.ref 23), some (.ref wa), some (.ref ra), some (.int (-1))]) (st' := [.int (-3)]) (h' := h3) (fun _ => rfl) ?_
        exact rt_r (v := some (.int (-3))) rfl rfl (fin h3 _ _ _ _ G3 (by omega) (by omega) k23 (Or.inr ⟨w, us, R, rfl, z1, e1', Or.inl ⟨z6, q1, rfl, rfl⟩⟩))
      refine rt_k (k := 3) (pc' := 82) (L' := [some (.ref 23), some (.ref wa), some (.ref ra), some (.int (-1))]) (st' := [.ref 23]) (h' := h3) (fun _ => rfl) ?_
      refine rt_gf rfl k23 rfl rfl ?_
      refine rt_k (k := 3) (pc' := 88) (L' := [some (.ref 23), some (.ref wa), some (.ref ra), some (.int (nI D.length))]) (st' := [.ref 23, .ref 23]) (h' := h3) (fun _ => rfl) ?_
      refine rt_gf rfl k23 rfl rfl ?_
      refine rt_k (k := 1) (pc' := 92) (L' := [some (.ref 23), some (.ref wa), some (.ref ra), some (.int (nI D.length))]) (st' := [.int (nI 1), .int (nI D.length), .ref 23]) (h' := h3) (fun _ => rfl) ?_
      refine rt_add rfl ?_
      refine rt_pf rfl k23 ⟨rfl, (show 10 < 24 by decide), rfl⟩ ?_
      refine rt_nm (fun h_45 e_46 => ?_)
      have f_47 : fr_ (fun z => z = 23) h3 h_45 := by rw [e_46]; exact fr_set (e' := .inr (12, [.ref 24, .int (nI 0), .ref 25, .int (nI (us.length + 1)), .int (nI i'), .ref 26, .int (nI J.length), .int (nI nx), .ref 27, .ref 28, .int (nI (D.length + 1)), .ref 29, .int (nI K.length), .int (nI made), .ref 30, .ref 31, .int (nI st.length), .ref 32, .int nc, .ref 33, .ref 34, .int bc, .int kn, .ref 35])) k23 (by rfl) (by first | decide | simp)
      have n_48 : h_45.length = h3.length := by rw [e_46]; simp
      have c_49 : h_45[23]? = some (.inr (12, [.ref 24, .int (nI 0), .ref 25, .int (nI (us.length + 1)), .int (nI i'), .ref 26, .int (nI J.length), .int (nI nx), .ref 27, .ref 28, .int (nI (D.length + 1)), .ref 29, .int (nI K.length), .int (nI made), .ref 30, .ref 31, .int (nI st.length), .ref 32, .int nc, .ref 33, .ref 34, .int bc, .int kn, .ref 35])) := by rw [e_46]; exact hs_self k23
      have el : (D ++ [(w, R)]).length = D.length + 1 := by rw [List.length_append]; rfl
      exact put D.length (D.length + 1) h_45 (D ++ [(w, R)]) (some (.int (nI (D.length + 1)))) f_47 (by omega) (by omega) c_49 el (fun h9 => yDf_sn) (Or.inr ⟨w, us, R, rfl, z1, e1', Or.inr (Or.inl ⟨by omega, q1, rfl, rfl⟩)⟩)
  have e1' : pRng us = none := e1
  have no : ¬ ∃ x us' R, w :: us = x :: us' ∧ isNm x = true ∧ pRng us' = some (R, []) := fun ⟨x, us', R', y1, y2, y3⟩ => by
    cases y1
    rw [e1'] at y3
    cases y3
  refine rt_k (k := 4) (pc' := 54) (L' := [some (.ref 23), some (.ref wa), some (.null), none]) (st' := [.int (-6)]) (h' := h3) (fun _ => rfl) ?_
  exact rt_r (v := some (.int (-6))) rfl rfl (fin h3 _ _ _ _ (gr_tr G2 g3) (by omega) (by omega) k23 (Or.inl ⟨no, rfl, rfl⟩))
end MV

