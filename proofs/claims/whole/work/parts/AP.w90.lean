/-! THE REFERENCE, 25: release. -/
theorem yQ.toL {l : Nat} {h : List va_E} {a nd nr bk br ow : Nat} {r : kL} (Y : yQ l h a nd nr bk br ow r) (hz : yAd a nd nr bk br ow l) : yL h a r := by
  obtain ⟨nm, ve, NF, RF, BF, QF, OF, ⟨q1, q2, q3, q4, q5, q6⟩, a2, a3, a4, a5, a6, a7⟩ := Y
  obtain ⟨z1, z2, z3, z4, z5, z6, z7⟩ := hz
  exact ⟨nm, ve, nd, nr, bk, br, ow, NF, RF, BF, QF, OF, ⟨by unfold zz; omega, q1⟩, ⟨by unfold zz; omega, q2⟩, ⟨by unfold zz; omega, q3⟩, ⟨by unfold zz; omega, q4⟩, ⟨by unfold zz; omega, q5⟩, ⟨by unfold zz; omega, q6⟩, a2, a3, a4.1, a5.mo (Nat.zero_le _), a6.mo (Nat.zero_le _), a7⟩
theorem nmE_s {J : List kL} {r s : kL} {i : Nat} (hs : J[i]? = some s) : nmE (J.take (i + 1)) r = nmE (J.take i) r + (if lNm s = lNm r then 1 else 0) := by
  unfold nmE
  rw [take_sn hs, List.countP_append, List.countP_singleton]
  by_cases q : lNm s = lNm r
  · rw [if_pos q, if_pos (decide_eq_true q)]
  · rw [if_neg q, if_neg (by rw [decide_eq_true_eq]; exact q)]
theorem pRel_nx {n m : Nat} {ws : List kW} : (∀ r, pRel n ws = some r → pRel m ws = some (m, r.2)) ∧ (pRel n ws = none → pRel m ws = none) := by
  unfold pRel
  split
  · split
    · split
      · refine ⟨fun r h => ?_, fun h => ?_⟩
        · rw [Option.map_eq_some_iff] at h ⊢
          obtain ⟨q, a, b⟩ := h
          exact ⟨q, a, by rw [← b]⟩
        · rw [Option.map_eq_none_iff] at h ⊢
          exact h
      · exact ⟨fun r h => (by cases h), fun _ => rfl⟩
    · exact ⟨fun r h => (by cases h), fun _ => rfl⟩
  · exact ⟨fun r h => (by cases h), fun _ => rfl⟩
def bnd (nx : Nat) (J : List kL) (K : List kG) (st : kS) : Prop := (∀ r ∈ J, lNo r < nx) ∧ (∀ g ∈ K, ∀ e ∈ g, lNo e.1 < nx) ∧ ∀ e ∈ st, e.1 < nx
theorem yLs.ad {h : List va_E} {ad ad' : Nat → Nat} {F : Nat → Option Nat} {J : List kL} (C : yLs h ad F J) (e : ∀ r ∈ J, ad' (lNo r) = ad (lNo r)) : yLs h ad' F J := fun i r hr => by rw [e r (List.mem_of_getElem? hr)]; exact C i r hr
theorem mKs.ad {h : List va_E} {ad ad' : Nat → Nat} {K : List kG} (C : mKs h ad K) (e : ∀ g ∈ K, ∀ x ∈ g, ad' (lNo x.1) = ad (lNo x.1)) : mKs h ad' K := by
  obtain ⟨F, a, b, c, d⟩ := C
  refine ⟨F, a, b, c, fun i g hg => ?_⟩
  obtain ⟨x, y, rl, ci, F', S, a1, a2, a3, a4, a5⟩ := d i g hg
  exact ⟨x, y, rl, ci, F', S, a1, a2, a3, a4, fun j f hf => by rw [e g (List.mem_of_getElem? hg) f (List.mem_of_getElem? hf)]; exact a5 j f hf⟩
theorem mSt.ad {h : List va_E} {ad ad' : Nat → Nat} {st : kS} (C : mSt h ad st) (e : ∀ x ∈ st, ad' x.1 = ad x.1) : mSt h ad' st := by
  obtain ⟨F, S, a, b, c, d⟩ := C
  exact ⟨F, S, a, b, c, fun i x hx => by rw [e x (List.mem_of_getElem? hx)]; exact d i x hx⟩
section MY
variable {X : Nat × (Nat → Int32)} {d : Nat} {h : List va_E} {Q : Option Value → List va_E → Prop} {ad : Nat → Nat} {J : List kL} {D : kD} {x y z md kc gn sp nc bc kn : Int32}
/-- the releases of the same name -/
theorem m_rl1 {a : Nat} {r : kL} (c23 : h[23]? = some (mo x y z (mq (nI J.length) md (nI D.length) kc gn sp nc bc kn))) (CI : mI h ad J) (Y : yL h a r) (kt : (∃ s ∈ J, lNm s = lNm r ∧ vc (lVe s) (lVe r) = 0) → Q (some (.int (-4))) h) (k : (¬ ∃ s ∈ J, lNm s = lNm r ∧ vc (lVe s) (lVe r) = 0) → rt_ X (d + 10) 130 77 [some (.ref 23), some (.ref a), some (.int (nI (nmE J r))), some (.int (nI J.length))] [] h Q) (i : Nat) (hi : i ≤ J.length) (H : ¬ ∃ s ∈ J.take i, lNm s = lNm r ∧ vc (lVe s) (lVe r) = 0) : rt_ X (d + 10) 130 16 [some (.ref 23), some (.ref a), some (.int (nI (nmE (J.take i) r))), some (.int (nI i))] [] h Q := by
  obtain ⟨IF, c26, hJ, HI⟩ := id CI
  obtain ⟨nm, ve, nd, nr, bk, br, ow, NF, RF, BF, QF, OF, ⟨zr, cr⟩, ⟨-, cnd⟩, ⟨-, cnr⟩, ⟨-, cbk⟩, ⟨-, cbr⟩, ⟨-, cow⟩, hln, Sn, Vn, DN, DB, WO⟩ := id Y
  obtain ⟨nv, nx', ny', ncc, -, -⟩ := Sn.at
  refine rt_k (k := 2) (pc' := 18) (L' := [some (.ref 23), some (.ref a), some (.int (nI (nmE (J.take i) r))), some (.int (nI i))]) (st' := [.ref 23, .int (nI i)]) (h' := h) (fun _ => rfl) ?_
  refine rt_gf rfl c23 rfl rfl ?_
  refine rt_ige rfl (by omega) (by omega) (fun z0 => ?_) (fun z0 => ?_)
  ·
    have e : i = J.length := by omega
    subst e
    rw [List.take_length] at H ⊢
    exact k H
  obtain ⟨s, hs⟩ := gt_ex z0
  obtain ⟨f1, Ys⟩ := HI i s hs
  generalize ea : ad (lNo s) = b at f1 Ys
  obtain ⟨nm0, ve0, nd0, nr0, bk0, br0, ow0, NF0, RF0, BF0, QF0, OF0, ⟨zr0, cr0⟩, ⟨-, cnd0⟩, ⟨-, cnr0⟩, ⟨-, cbk0⟩, ⟨-, cbr0⟩, ⟨-, cow0⟩, hln0, Sn0, Vn0, DN0, DB0, WO0⟩ := id Ys
  obtain ⟨nv0, nx0, ny0, ncc0, -, -⟩ := Sn0.at
  have es := nmE_s (r := r) hs
  refine rt_k (k := 1) (pc' := 25) (L' := [some (.ref 23), some (.ref a), some (.int (nI (nmE (J.take i) r))), some (.int (nI i))]) (st' := [.ref 23]) (h' := h) (fun _ => rfl) ?_
  refine rt_gf rfl c23 rfl rfl ?_
  refine rt_k (k := 1) (pc' := 29) (L' := [some (.ref 23), some (.ref a), some (.int (nI (nmE (J.take i) r))), some (.int (nI i))]) (st' := [.int (nI i), .ref 26]) (h' := h) (fun _ => rfl) ?_
  refine rt_aalN rfl c26 rfl (by omega) (by decide) f1 ?_
  refine rt_gf rfl cr0 rfl rfl ?_
  refine rt_k (k := 1) (pc' := 34) (L' := [some (.ref 23), some (.ref a), some (.int (nI (nmE (J.take i) r))), some (.int (nI i))]) (st' := [.ref a, .ref nm0]) (h' := h) (fun _ => rfl) ?_
  refine rt_gf rfl cr rfl rfl ?_
  refine rt_cvE rfl (by decide) ncc0 rfl rfl rfl rfl (st_eq Sn0 Sn) ?_
  refine rt_pn rfl (fun z1 => ?_) (fun z1 => ?_)
  rotate_left
  ·
    refine rt_k (k := 1) (pc' := 71) (L' := [some (.ref 23), some (.ref a), some (.int (nI (nmE (J.take i) r))), some (.int (nI i))]) (st' := []) (h' := h) (fun _ => rfl) ?_
    refine rt_inc (c := 1) rfl rfl ?_
    refine rt_k (k := 1) (pc' := 16) (L' := [some (.ref 23), some (.ref a), some (.int (nI (nmE (J.take i) r))), some (.int (nI (i + 1)))]) (st' := []) (h' := h) (fun _ => rfl) ?_
    have es2 : nmE (J.take (i + 1)) r = nmE (J.take i) r := by rw [es, if_neg z1]; rfl
    rw [← es2]
    refine m_rl1 c23 CI Y kt k (i + 1) z0 (fun ⟨t, ht, q⟩ => ?_)
    rw [take_sn hs] at ht
    rcases List.mem_append.mp ht with y | y
    · exact H ⟨t, y, q⟩
    · rw [List.mem_singleton] at y; rw [y] at q; exact z1 q.1
  refine rt_k (k := 1) (pc' := 47) (L' := [some (.ref 23), some (.ref a), some (.int (nI (nmE (J.take i) r))), some (.int (nI i))]) (st' := [.ref 23]) (h' := h) (fun _ => rfl) ?_
  refine rt_gf rfl c23 rfl rfl ?_
  refine rt_k (k := 1) (pc' := 51) (L' := [some (.ref 23), some (.ref a), some (.int (nI (nmE (J.take i) r))), some (.int (nI i))]) (st' := [.int (nI i), .ref 26]) (h' := h) (fun _ => rfl) ?_
  refine rt_aalN rfl c26 rfl (by omega) (by decide) f1 ?_
  refine rt_gf rfl cr0 rfl rfl ?_
  refine rt_k (k := 1) (pc' := 56) (L' := [some (.ref 23), some (.ref a), some (.int (nI (nmE (J.take i) r))), some (.int (nI i))]) (st' := [.ref a, .ref ve0]) (h' := h) (fun _ => rfl) ?_
  refine rt_gf rfl cr rfl rfl ?_
  refine rt_cE rfl rfl (m_order Vn0 Vn) ?_
  refine rt_qn rfl (fun z2 => ?_) (fun z2 => ?_)
  rotate_left
  ·
    refine rt_k (k := 1) (pc' := 67) (L' := [some (.ref 23), some (.ref a), some (.int (nI (nmE (J.take i) r))), some (.int (nI i))]) (st' := [.int (-4)]) (h' := h) (fun _ => rfl) ?_
    exact rt_r (v := some (.int (-4))) rfl rfl (kt ⟨s, List.mem_of_getElem? hs, z1, z2⟩)
  refine rt_inc (c := 1) rfl rfl ?_
  refine rt_inc (c := 1) rfl rfl ?_
  refine rt_k (k := 1) (pc' := 16) (L' := [some (.ref 23), some (.ref a), some (.int (nI ((nmE (J.take i) r) + 1))), some (.int (nI (i + 1)))]) (st' := []) (h' := h) (fun _ => rfl) ?_
  rw [if_pos z1] at es
  rw [← es]
  refine m_rl1 c23 CI Y kt k (i + 1) z0 (fun ⟨t, ht, q⟩ => ?_)
  rw [take_sn hs] at ht
  rcases List.mem_append.mp ht with y | y
  · exact H ⟨t, y, q⟩
  · rw [List.mem_singleton] at y; rw [y] at q; exact z2 q.2
termination_by J.length - i
end MY
theorem ne3 {a k : Nat} (h : 36 < a) (hk : a < k) : ¬ (k = 23 ∨ k = 26 ∨ k = a) := by omega
section MZ
variable {X : Nat × (Nat → Int32)} {d : Nat} {h : List va_E} {Q : Option Value → List va_E → Prop} {ad : Nat → Nat} {T : List Nat} {J : List kL} {nx : Nat} {D : kD} {K : List kG} {made : Nat} {st : kS}
theorem mKp.r2 {h' : List va_E} {c s : Nat} {nw pa nc bc kn nw' pa' nc' : Int32} (C : mKp h ad T J nx D K made st) (c23 : h[23]? = some (mo (nI T.length) nw pa (mq (nI J.length) (nI nx) (nI D.length) (nI K.length) (nI made) (nI st.length) nc bc kn))) (G : gr (fun z => z = 23 ∨ z = 25 ∨ z = 32) c s h h') (W : mW h' []) (d32 : ∃ NF : Nat → Option Nat, h'[32]? = some (.inl (9, 8, .inr (.inr (.inr (.inr NF)))))) (d23 : h'[23]? = some (mo (nI 0) nw' pa' (mq (nI J.length) (nI nx) (nI D.length) (nI K.length) (nI made) (nI st.length) nc' bc kn))) : mKp h' ad [] J nx D K made st := by
  obtain ⟨l, ⟨nw0, pa0, nc0, bc0, kn0, c0, CA⟩, TT, -, CI, CD, CK, CS⟩ := C
  rw [c23] at c0
  unfold mo mq at c0
  injection c0 with c0
  injection c0 with c0
  injection c0 with _ c0
  simp only [List.cons.injEq, Value.int.injEq, and_true, true_and] at c0
  obtain ⟨-, -, -, e1, e2⟩ := c0
  subst e1 e2
  have E := gr_ex G (fun k q y => by unfold zz at q; omega)
  have e : ∀ k, k < 39 → ¬ (k = 23 ∨ k = 25 ∨ k = 32) → h'[k]? = h[k]? := fun k hk hn => G.2.2.2 k (by omega) hn
  obtain ⟨-, ⟨CF, a2⟩, ⟨RF, a3⟩, BF, a4, a5⟩ := CA
  refine ⟨Nat.le_trans l G.1, ⟨nw', pa', _, _, _, d23, d32, ⟨CF, (e 33 (by omega) (by omega)).trans a2⟩, ⟨RF, (e 35 (by omega) (by omega)).trans a3⟩, BF, (e 34 (by omega) (by omega)).trans a4, ?_⟩, TT.nil (e 24 (by omega) (by omega)), W, CI.ex E (e 26 (by omega) (by omega)), CD.ex E (e 27 (by omega) (by omega)) (e 28 (by omega) (by omega)), CK.ex E (e 29 (by omega) (by omega)), CS.ex E (e 30 (by omega) (by omega)) (e 31 (by omega) (by omega))⟩
  rcases a5 with q | ⟨q, q2⟩
  · exact Or.inl q
  · refine Or.inr ⟨q, ?_⟩
    rcases q2 with y | ⟨B, y1, y2, y3, y4⟩
    · exact Or.inl y
    · exact Or.inr ⟨B, y1, y2, y3, y4.ex E⟩
theorem m_release (C : mKp h ad T J nx D K made st) (h8 : ∀ i N, nmS (J.take i) N → N.length ≤ 8) (sm : ∀ r ∈ J, smW (lNm r)) (hb : bnd nx J K st) : rt_ X (d + 10) 130 0 [some (.ref 23), none, none, none] [] h (fun v h' => gr mB (mcl T) (msl T) h h' ∧ ∃ ad' J' nx', mKp h' ad' [] J' nx' D K made st ∧ rlR (wl T) J nx v J' nx') := by
  obtain ⟨l39, ⟨nw, pa, nc, bc, kn, c23, CA⟩, ⟨⟨g, t1, t2⟩, t3, t4⟩, W, CI, CD, CK, CS⟩ := id C
  obtain ⟨⟨NF0, c32⟩, -⟩ := id CA
  refine rt_k (k := 1) (pc' := 1) (L' := [some (.ref 23), none, none, none]) (st' := [.ref 23]) (h' := h) (fun _ => rfl) ?_
  refine rt_cv rfl (by decide) c23 rfl rfl rfl rfl (m_readRelease (d := d) l39 c23 t1 t2 ⟨t3, t4⟩ W) ?_
  rintro _ h1 ⟨g1, W1, ⟨nw', pa', d23⟩, (⟨r, l, a, nd, nr, bk, br, ow, e1, rfl, ha, hz, hl, Y⟩ | ⟨e1, rfl⟩)⟩
  ·
    have l1 := g1.1
    have E1 := gr_ex g1 mA_zz
    have e0 : ∀ k, k < 39 → ¬ mA k → h1[k]? = h[k]? := fun k hk hn => g1.2.2.2 k (by omega) hn
    have CI1 : mI h1 ad J := CI.ex E1 (e0 26 (by omega) (by decide))
    have d32 := (e0 32 (by omega) (by decide)).trans c32
    have er : pRel nx (wl T) = some (nx, r.2) := pRel_nx.1 r e1
    have Yl : yL h1 a r := Y.toL hz
    have gl : gr mB (mcl T) (msl T) h h1 := gr_mo g1 mA_B (by unfold mcl; omega) (by unfold msl; omega)
    refine rt_k (k := 7) (pc' := 16) (L' := [some (.ref 23), some (.ref a), some (.int (nI 0)), some (.int (nI 0))]) (st' := []) (h' := h1) (fun _ => rfl) ?_
    refine m_rl1 (kc := nI K.length) (J := J) (D := D) d23 CI1 Yl (fun q => ?_) (fun q => ?_) 0 (Nat.zero_le _) (fun ⟨s, q, _⟩ => by cases q)
    · exact ⟨gl, ad, J, nx, C.rd c23 g1 W1 d23, Or.inr ⟨_, er, Or.inl ⟨q, rfl, rfl, rfl⟩⟩⟩
    have enm : nmE J (nx, r.2) = nmE J r := rfl
    refine rt_k (k := 1) (pc' := 78) (L' := [some (.ref 23), some (.ref a), some (.int (nI (nmE J r))), some (.int (nI J.length))]) (st' := [.ref 23]) (h' := h1) (fun _ => rfl) ?_
    refine rt_cv rfl (by decide) d23 rfl rfl rfl rfl (m_listNames (ad := ad) (J := J) (D := D) (d := d + 4) h8 sm d23 NF0 d32 CI1) ?_
    rintro _ h2 ⟨rfl, F2, N, NF2, n1, n2, k23, k32, kW⟩
    have E2 := fr_ex F2 (fun k q => by unfold zz at q; omega)
    have G2 : gr (fun z => z = 23 ∨ z = 25 ∨ z = 32) _ _ h h2 := gr_tr (gr_mo g1 (fun k q => by unfold mA at q; omega) (Nat.le_refl _) (Nat.le_refl _)) (gr_mo (gr_fr F2) (fun k q => by omega) (Nat.le_refl _) (Nat.le_refl _))
    have W2 : mW h2 [] := W1.ex E2 (F2.2.2 25 (by decide))
    have full : flR J (nx, r.2) → gr mB (mcl T) (msl T) h h2 ∧ ∃ ad' J' nx', mKp h2 ad' [] J' nx' D K made st ∧ rlR (wl T) J nx (some (.int (-3))) J' nx' := fun fl => ⟨gr_mo G2 (fun k y => by unfold mB; omega) (by unfold mcl; omega) (by unfold msl; omega), ad, J, nx, C.r2 c23 G2 W2 ⟨_, k32⟩ k23, Or.inr ⟨_, er, Or.inr (Or.inl ⟨q, fl, rfl, rfl, rfl⟩)⟩⟩
    have add : ¬ flR J (nx, r.2) → rt_ X (d + 10) 130 111 [some (.ref 23), some (.ref a), some (.int (nI (nmE J r))), some (.int (nI J.length))] [] h2 (fun v h' => gr mB (mcl T) (msl T) h h' ∧ ∃ ad' J' nx', mKp h' ad' [] J' nx' D K made st ∧ rlR (wl T) J nx v J' nx') := fun nf => by
      have hJ := CI1.choose_spec.2.1
      have hJ32 : J.length < 32 := by
        apply Classical.byContradiction
        exact fun y => nf (Or.inl (by omega))
      have hz' := hz
      obtain ⟨z1, z2, z3, z4, z5, z6, z7⟩ := hz'
      have Y2 : yQ l h2 a nd nr bk br ow r := Y.ew (ew_ex E2) (fun k y => F2.2.2 k (by omega))
      obtain ⟨nm, ve, NF, RF, BF, QF, OF, yq2, hln, Sn, Vn, DN, DB, WO⟩ := id Y2
      obtain ⟨ca, cnd, cnr, cbk, cbr, cow⟩ := id yq2
      have eno : lNo r = 0 := pRel_no e1
      have w_nd : a < nd := z2
      have w_nr : a < nr := Nat.lt_trans w_nd z3
      have w_bk : a < bk := Nat.lt_trans w_nr z4
      have w_br : a < br := Nat.lt_trans w_bk z5
      have w_ow : a < ow := Nat.lt_trans w_br z6
      rw [eno] at ca
      obtain ⟨IF, c26, -, HI⟩ := CI1.ex E2 (F2.2.2 26 (by decide))
      refine rt_k (k := 2) (pc' := 113) (L' := [some (.ref 23), some (.ref a), some (.int (nI (nmE J r))), some (.int (nI J.length))]) (st' := [.ref 23, .ref a]) (h' := h2) (fun _ => rfl) ?_
      refine rt_gf rfl k23 rfl rfl ?_
      refine rt_pf rfl ca ⟨rfl, (show 0 < 11 by decide), rfl⟩ ?_
      refine rt_nm (fun h_1 e_2 => ?_)
      have f_3 : fr_ (fun z => z = 23 ∨ z = 26 ∨ z = a) h2 h_1 := by rw [e_2]; exact fr_set (e' := .inr (14, [.int (nI nx), .ref nm, .ref ve, .ref nd, .ref nr, .int (nI ((lNe r).length)), .ref bk, .ref br, .int (nI ((lBr r).length)), .ref ow, .int (nI ((lOw r).length))])) ca (by rfl) (by first | decide | simp)
      have n_4 : h_1.length = h2.length := by rw [e_2]; simp
      have c_5 : h_1[23]? = some (.inr (12, [.ref 24, .int (nI 0), .ref 25, .int nw', .int pa', .ref 26, .int (nI J.length), .int (nI nx), .ref 27, .ref 28, .int (nI D.length), .ref 29, .int (nI K.length), .int (nI made), .ref 30, .ref 31, .int (nI st.length), .ref 32, .int (nI N.length), .ref 33, .ref 34, .int bc, .int kn, .ref 35])) := by rw [e_2]; exact hs_ne k23 (hc_ne ca k23 (by intro q; cases q))
      have c_6 : h_1[26]? = some (.inl (10, 32, .inr (.inr (.inr (.inr IF))))) := by rw [e_2]; exact hs_ne c26 (hc_ne ca c26 (by intro q; cases q))
      have c_7 : h_1[a]? = some (.inr (14, [.int (nI nx), .ref nm, .ref ve, .ref nd, .ref nr, .int (nI ((lNe r).length)), .ref bk, .ref br, .int (nI ((lBr r).length)), .ref ow, .int (nI ((lOw r).length))])) := by rw [e_2]; exact hs_self ca
      refine rt_k (k := 2) (pc' := 121) (L' := [some (.ref 23), some (.ref a), some (.int (nI (nmE J r))), some (.int (nI J.length))]) (st' := [.ref 23, .ref 23]) (h' := h_1) (fun _ => rfl) ?_
      refine rt_gf rfl c_5 rfl rfl ?_
      refine rt_k (k := 1) (pc' := 125) (L' := [some (.ref 23), some (.ref a), some (.int (nI (nmE J r))), some (.int (nI J.length))]) (st' := [.int (nI 1), .int (nI nx), .ref 23]) (h' := h_1) (fun _ => rfl) ?_
      refine rt_add rfl ?_
      refine rt_pf rfl c_5 ⟨rfl, (show 7 < 24 by decide), rfl⟩ ?_
      refine rt_nm (fun h_8 e_9 => ?_)
      have f_10 : fr_ (fun z => z = 23 ∨ z = 26 ∨ z = a) h2 h_8 := by rw [e_9]; exact fr_tr f_3 (fr_set (e' := .inr (12, [.ref 24, .int (nI 0), .ref 25, .int nw', .int pa', .ref 26, .int (nI J.length), .int (nI (nx + 1)), .ref 27, .ref 28, .int (nI D.length), .ref 29, .int (nI K.length), .int (nI made), .ref 30, .ref 31, .int (nI st.length), .ref 32, .int (nI N.length), .ref 33, .ref 34, .int bc, .int kn, .ref 35])) c_5 (by rfl) (by first | decide | simp))
      have n_11 : h_8.length = h_1.length := by rw [e_9]; simp
      have c_12 : h_8[23]? = some (.inr (12, [.ref 24, .int (nI 0), .ref 25, .int nw', .int pa', .ref 26, .int (nI J.length), .int (nI (nx + 1)), .ref 27, .ref 28, .int (nI D.length), .ref 29, .int (nI K.length), .int (nI made), .ref 30, .ref 31, .int (nI st.length), .ref 32, .int (nI N.length), .ref 33, .ref 34, .int bc, .int kn, .ref 35])) := by rw [e_9]; exact hs_self c_5
      have c_13 : h_8[26]? = some (.inl (10, 32, .inr (.inr (.inr (.inr IF))))) := by rw [e_9]; exact hs_ne c_6 (by decide)
      have c_14 : h_8[a]? = some (.inr (14, [.int (nI nx), .ref nm, .ref ve, .ref nd, .ref nr, .int (nI ((lNe r).length)), .ref bk, .ref br, .int (nI ((lBr r).length)), .ref ow, .int (nI ((lOw r).length))])) := by rw [e_9]; exact hs_ne c_7 (hc_ne c_5 c_7 (by intro q; cases q))
      refine rt_k (k := 1) (pc' := 130) (L' := [some (.ref 23), some (.ref a), some (.int (nI (nmE J r))), some (.int (nI J.length))]) (st' := [.ref 23]) (h' := h_8) (fun _ => rfl) ?_
      refine rt_gf rfl c_12 rfl rfl ?_
      refine rt_k (k := 1) (pc' := 134) (L' := [some (.ref 23), some (.ref a), some (.int (nI (nmE J r))), some (.int (nI J.length))]) (st' := [.ref 23, .ref 26]) (h' := h_8) (fun _ => rfl) ?_
      refine rt_gf rfl c_12 rfl rfl ?_
      refine rt_k (k := 1) (pc' := 138) (L' := [some (.ref 23), some (.ref a), some (.int (nI (nmE J r))), some (.int (nI J.length))]) (st' := [.ref a, .int (nI J.length), .ref 26]) (h' := h_8) (fun _ => rfl) ?_
      refine rt_aasN rfl c_13 c_14 ⟨rfl, rfl⟩ (by omega) (by decide) ?_
      refine rt_nm (fun h_15 e_16 => ?_)
      have f_17 : fr_ (fun z => z = 23 ∨ z = 26 ∨ z = a) h2 h_15 := by rw [e_16]; exact fr_tr f_10 (fr_set (e' := .inl (10, 32, .inr (.inr (.inr (.inr (va_up IF J.length (some a))))))) c_13 (by rfl) (by first | decide | simp))
      have n_18 : h_15.length = h_8.length := by rw [e_16]; simp
      have c_19 : h_15[23]? = some (.inr (12, [.ref 24, .int (nI 0), .ref 25, .int nw', .int pa', .ref 26, .int (nI J.length), .int (nI (nx + 1)), .ref 27, .ref 28, .int (nI D.length), .ref 29, .int (nI K.length), .int (nI made), .ref 30, .ref 31, .int (nI st.length), .ref 32, .int (nI N.length), .ref 33, .ref 34, .int bc, .int kn, .ref 35])) := by rw [e_16]; exact hs_ne c_12 (by decide)
      have c_20 : h_15[26]? = some (.inl (10, 32, .inr (.inr (.inr (.inr (va_up IF J.length (some a))))))) := by rw [e_16]; exact hs_self c_13
      have c_21 : h_15[a]? = some (.inr (14, [.int (nI nx), .ref nm, .ref ve, .ref nd, .ref nr, .int (nI ((lNe r).length)), .ref bk, .ref br, .int (nI ((lBr r).length)), .ref ow, .int (nI ((lOw r).length))])) := by rw [e_16]; exact hs_ne c_14 (hc_ne c_13 c_14 (by intro q; cases q))
      refine rt_k (k := 2) (pc' := 141) (L' := [some (.ref 23), some (.ref a), some (.int (nI (nmE J r))), some (.int (nI J.length))]) (st' := [.ref 23, .ref 23]) (h' := h_15) (fun _ => rfl) ?_
      refine rt_gf rfl c_19 rfl rfl ?_
      refine rt_k (k := 1) (pc' := 145) (L' := [some (.ref 23), some (.ref a), some (.int (nI (nmE J r))), some (.int (nI J.length))]) (st' := [.int (nI 1), .int (nI J.length), .ref 23]) (h' := h_15) (fun _ => rfl) ?_
      refine rt_add rfl ?_
      refine rt_pf rfl c_19 ⟨rfl, (show 6 < 24 by decide), rfl⟩ ?_
      refine rt_nm (fun h_22 e_23 => ?_)
      have f_24 : fr_ (fun z => z = 23 ∨ z = 26 ∨ z = a) h2 h_22 := by rw [e_23]; exact fr_tr f_17 (fr_set (e' := .inr (12, [.ref 24, .int (nI 0), .ref 25, .int nw', .int pa', .ref 26, .int (nI (J.length + 1)), .int (nI (nx + 1)), .ref 27, .ref 28, .int (nI D.length), .ref 29, .int (nI K.length), .int (nI made), .ref 30, .ref 31, .int (nI st.length), .ref 32, .int (nI N.length), .ref 33, .ref 34, .int bc, .int kn, .ref 35])) c_19 (by rfl) (by first | decide | simp))
      have n_25 : h_22.length = h_15.length := by rw [e_23]; simp
      have c_26 : h_22[23]? = some (.inr (12, [.ref 24, .int (nI 0), .ref 25, .int nw', .int pa', .ref 26, .int (nI (J.length + 1)), .int (nI (nx + 1)), .ref 27, .ref 28, .int (nI D.length), .ref 29, .int (nI K.length), .int (nI made), .ref 30, .ref 31, .int (nI st.length), .ref 32, .int (nI N.length), .ref 33, .ref 34, .int bc, .int kn, .ref 35])) := by rw [e_23]; exact hs_self c_19
      have c_27 : h_22[26]? = some (.inl (10, 32, .inr (.inr (.inr (.inr (va_up IF J.length (some a))))))) := by rw [e_23]; exact hs_ne c_20 (by decide)
      have c_28 : h_22[a]? = some (.inr (14, [.int (nI nx), .ref nm, .ref ve, .ref nd, .ref nr, .int (nI ((lNe r).length)), .ref bk, .ref br, .int (nI ((lBr r).length)), .ref ow, .int (nI ((lOw r).length))])) := by rw [e_23]; exact hs_ne c_21 (hc_ne c_19 c_21 (by intro q; cases q))
      refine rt_k (k := 2) (pc' := 151) (L' := [some (.ref 23), some (.ref a), some (.int (nI (nmE J r))), some (.int (nI J.length))]) (st' := [.int (nI 0), .ref 23]) (h' := h_22) (fun _ => rfl) ?_
      refine rt_pf rfl c_26 ⟨rfl, (show 22 < 24 by decide), rfl⟩ ?_
      refine rt_nm (fun h_29 e_30 => ?_)
      have f_31 : fr_ (fun z => z = 23 ∨ z = 26 ∨ z = a) h2 h_29 := by rw [e_30]; exact fr_tr f_24 (fr_set (e' := .inr (12, [.ref 24, .int (nI 0), .ref 25, .int nw', .int pa', .ref 26, .int (nI (J.length + 1)), .int (nI (nx + 1)), .ref 27, .ref 28, .int (nI D.length), .ref 29, .int (nI K.length), .int (nI made), .ref 30, .ref 31, .int (nI st.length), .ref 32, .int (nI N.length), .ref 33, .ref 34, .int bc, .int (nI 0), .ref 35])) c_26 (by rfl) (by first | decide | simp))
      have n_32 : h_29.length = h_22.length := by rw [e_30]; simp
      have c_33 : h_29[23]? = some (.inr (12, [.ref 24, .int (nI 0), .ref 25, .int nw', .int pa', .ref 26, .int (nI (J.length + 1)), .int (nI (nx + 1)), .ref 27, .ref 28, .int (nI D.length), .ref 29, .int (nI K.length), .int (nI made), .ref 30, .ref 31, .int (nI st.length), .ref 32, .int (nI N.length), .ref 33, .ref 34, .int bc, .int (nI 0), .ref 35])) := by rw [e_30]; exact hs_self c_26
      have c_34 : h_29[26]? = some (.inl (10, 32, .inr (.inr (.inr (.inr (va_up IF J.length (some a))))))) := by rw [e_30]; exact hs_ne c_27 (by decide)
      have c_35 : h_29[a]? = some (.inr (14, [.int (nI nx), .ref nm, .ref ve, .ref nd, .ref nr, .int (nI ((lNe r).length)), .ref bk, .ref br, .int (nI ((lBr r).length)), .ref ow, .int (nI ((lOw r).length))])) := by rw [e_30]; exact hs_ne c_28 (hc_ne c_26 c_28 (by intro q; cases q))
      refine rt_k (k := 1) (pc' := 155) (L' := [some (.ref 23), some (.ref a), some (.int (nI (nmE J r))), some (.int (nI J.length))]) (st' := [.ref a]) (h' := h_29) (fun _ => rfl) ?_
      refine rt_gf rfl c_35 rfl rfl ?_
      have F3 := f_31
      have m23 := c_33
      have m26 := c_34
      have ma := c_35
      generalize h_29 = h3 at *
      have l2 := F2.1
      have EW : eW (okL l) h2 h3 := by
        refine ew_fr F3 (fun k hk => ?_)
        rcases hk with y | y | y
        · exact Or.inl (by unfold zz; omega)
        · exact Or.inl (by unfold zz; omega)
        · exact Or.inr ⟨_, by rw [y]; exact ca, by unfold okL; simp⟩
      have YL : yL h3 a (nx, r.2) := ⟨nm, ve, nd, nr, bk, br, ow, NF, RF, BF, QF, OF, ⟨by unfold zz; omega, ma⟩, ⟨by unfold zz; omega, fr_at F3 (ne3 z1 w_nd) cnd⟩, ⟨by unfold zz; omega, fr_at F3 (ne3 z1 w_nr) cnr⟩, ⟨by unfold zz; omega, fr_at F3 (ne3 z1 w_bk) cbk⟩, ⟨by unfold zz; omega, fr_at F3 (ne3 z1 w_br) cbr⟩, ⟨by unfold zz; omega, fr_at F3 (ne3 z1 w_ow) cow⟩, hln, Sn.ew (EW.mo okV_L), (Vn.ew (EW.mo okV_L)).1, (DN.ew EW).mo (Nat.zero_le _), (DB.ew EW).mo (Nat.zero_le _), WO.ew EW⟩
      have G3 : gr mB (mcl T) (msl T) h h3 := by
        refine ⟨by rw [F3.1]; exact G2.1, ?_, ?_, fun k hk hn => ?_⟩
        · rw [F3.1]; exact Nat.le_trans G2.2.1 (by unfold mcl; omega)
        · rw [F3.2.1]; exact Nat.le_trans G2.2.2.1 (by unfold msl; omega)
        · have hn' : ¬ (23 ≤ k ∧ k ≤ 35) := hn
          rw [F3.2.2 k (by omega)]
          exact G2.2.2.2 k hk (by omega)
      have E3 := gr_ex G3 mB_zz
      have e : ∀ k, k < 39 → ¬ (k = 23 ∨ k = 25 ∨ k = 32 ∨ k = 26) → h3[k]? = h[k]? := fun k hk hn => by rw [F3.2.2 k (by omega)]; exact G2.2.2.2 k (by omega) (by omega)
      have ead : ∀ n, n < nx → (fun n => if n = nx then a else ad n) n = ad n := fun n hn => if_neg (by omega)
      have eax : (fun n => if n = nx then a else ad n) nx = a := if_pos rfl
      generalize (fun n => if n = nx then a else ad n) = ad' at ead eax
      have eJ : (J ++ [(nx, r.2)]).length = J.length + 1 := by rw [List.length_append]; rfl
      have HI3 : yLs h3 ad' (va_up IF J.length (some a)) (J ++ [(nx, r.2)]) := fun i s hs => by
        unfold va_up
        by_cases y : i < J.length
        · rw [List.getElem?_append_left y] at hs
          rw [if_neg (by omega), ead _ (hb.1 s (List.mem_of_getElem? hs))]
          exact ⟨(HI i s hs).1, by obtain ⟨IF0, -, -, HI0⟩ := id CI; exact (HI0 i s hs).2.ex E3⟩
        · have hi := gt_lt hs
          rw [eJ] at hi
          have ei : i = J.length := by omega
          subst ei
          rw [List.getElem?_append_right (Nat.le_refl _), Nat.sub_self] at hs
          cases hs
          rw [if_pos rfl]
          exact ⟨by rw [show lNo (nx, r.2) = nx from rfl, eax], by rw [show lNo (nx, r.2) = nx from rfl, eax]; exact YL⟩
      rw [← eJ] at m23
      have M : mKp h3 ad' [] (J ++ [(nx, r.2)]) (nx + 1) D K made st := by
        obtain ⟨-, a2, a3, BF, a4, -⟩ := CA
        obtain ⟨CF, a2⟩ := a2
        obtain ⟨RF, a3⟩ := a3
        refine ⟨Nat.le_trans l39 G3.1, ⟨_, _, _, _, _, m23, ⟨NF2, fr_at F3 (by omega) k32⟩, ⟨CF, (e 33 (by omega) (by omega)).trans a2⟩, ⟨RF, (e 35 (by omega) (by omega)).trans a3⟩, BF, (e 34 (by omega) (by omega)).trans a4, Or.inl rfl⟩, C.2.2.1.nil (e 24 (by omega) (by omega)), ?_, ⟨_, m26, by rw [eJ]; omega, HI3⟩, CD.ex E3 (e 27 (by omega) (by omega)) (e 28 (by omega) (by omega)), (CK.ex E3 (e 29 (by omega) (by omega))).ad (fun g hg x hx => ead _ (hb.2.1 g hg x hx)), (CS.ex E3 (e 30 (by omega) (by omega)) (e 31 (by omega) (by omega))).ad (fun x hx => ead _ (hb.2.2 x hx))⟩
        obtain ⟨WF, w1, -, -⟩ := W2
        exact ⟨WF, fr_at F3 (by omega) w1, Nat.zero_le _, fun i w hw => by simp at hw⟩
      exact rt_r (v := some (.int (nI nx))) rfl rfl (⟨G3, ad', J ++ [(nx, r.2)], nx + 1, M, Or.inr ⟨_, er, Or.inr (Or.inr ⟨q, nf, rfl, rfl, rfl⟩)⟩⟩)
    have hJm := CI1.choose_spec.2.1
    have nmle : nmE J r ≤ J.length := List.countP_le_length
    refine rt_k (k := 1) (pc' := 82) (L' := [some (.ref 23), some (.ref a), some (.int (nI (nmE J r))), some (.int (nI J.length))]) (st' := [.ref 23]) (h' := h2) (fun _ => rfl) ?_
    refine rt_gf rfl k23 rfl rfl ?_
    refine rt_k (k := 1) (pc' := 87) (L' := [some (.ref 23), some (.ref a), some (.int (nI (nmE J r))), some (.int (nI J.length))]) (st' := [.int (nI 32), .int (nI J.length)]) (h' := h2) (fun _ => rfl) ?_
    refine rt_ieq rfl (by omega) (by decide) (fun z0 => ?_) (fun z0 => ?_)
    ·
      refine rt_k (k := 1) (pc' := 110) (L' := [some (.ref 23), some (.ref a), some (.int (nI (nmE J r))), some (.int (nI J.length))]) (st' := [.int (-3)]) (h' := h2) (fun _ => rfl) ?_
      exact rt_r (v := some (.int (-3))) rfl rfl (full (Or.inl z0))
    refine rt_k (k := 2) (pc' := 92) (L' := [some (.ref 23), some (.ref a), some (.int (nI (nmE J r))), some (.int (nI J.length))]) (st' := [.int (nI 5), .int (nI (nmE J r))]) (h' := h2) (fun _ => rfl) ?_
    refine rt_ieq rfl (by omega) (by decide) (fun z1 => ?_) (fun z1 => ?_)
    ·
      refine rt_k (k := 1) (pc' := 110) (L' := [some (.ref 23), some (.ref a), some (.int (nI (nmE J r))), some (.int (nI J.length))]) (st' := [.int (-3)]) (h' := h2) (fun _ => rfl) ?_
      exact rt_r (v := some (.int (-3))) rfl rfl (full (Or.inr (Or.inl z1)))
    refine rt_k (k := 1) (pc' := 96) (L' := [some (.ref 23), some (.ref a), some (.int (nI (nmE J r))), some (.int (nI J.length))]) (st' := [.int (nI (nmE J r))]) (h' := h2) (fun _ => rfl) ?_
    refine rt_zne rfl (by omega) (fun z2 => ?_) (fun z2 => ?_)
    ·
      exact add (fun y => by
        rcases y with y | y | y
        · exact z0 y
        · exact z1 y
        · have y1 : nmE J r = 0 := y.1
          omega)
    refine rt_k (k := 1) (pc' := 100) (L' := [some (.ref 23), some (.ref a), some (.int (nI (nmE J r))), some (.int (nI J.length))]) (st' := [.ref 23]) (h' := h2) (fun _ => rfl) ?_
    refine rt_gf rfl k23 rfl rfl ?_
    refine rt_k (k := 1) (pc' := 105) (L' := [some (.ref 23), some (.ref a), some (.int (nI (nmE J r))), some (.int (nI J.length))]) (st' := [.int (nI 8), .int (nI N.length)]) (h' := h2) (fun _ => rfl) ?_
    refine rt_ine rfl (by omega) (by decide) (fun z3 => ?_) (fun z3 => ?_)
    ·
      refine add (fun y => ?_)
      rcases y with y | y | ⟨y, N', y1, y2⟩
      · exact z0 y
      · exact z1 y
      · refine z3 ?_
        rw [← y2]
        exact congrArg List.length (nmS_uni n1 y1 (fun _ => Iff.rfl))
    refine rt_k (k := 1) (pc' := 110) (L' := [some (.ref 23), some (.ref a), some (.int (nI (nmE J r))), some (.int (nI J.length))]) (st' := [.int (-3)]) (h' := h2) (fun _ => rfl) ?_
    exact rt_r (v := some (.int (-3))) rfl rfl (full (Or.inr (Or.inr ⟨(show nmE J r = 0 by omega), N, n1, z3⟩)))
  refine rt_k (k := 4) (pc' := 11) (L' := [some (.ref 23), some (.null), none, none]) (st' := [.int (-6)]) (h' := h1) (fun _ => rfl) ?_
  exact rt_r (v := some (.int (-6))) rfl rfl (⟨gr_mo g1 mA_B (by unfold mcl; omega) (by unfold msl; omega), ad, J, nx, C.rd c23 g1 W1 d23, Or.inl ⟨pRel_nx.2 e1, rfl, rfl, rfl⟩⟩)
end MZ

