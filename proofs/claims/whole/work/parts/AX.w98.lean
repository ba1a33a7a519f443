/-! THE REFERENCE, 33: walk. -/
theorem yL.no {h : List va_E} {a : Nat} {r : kL} (Y : yL h a r) : yNo h a (lNo r) := by
  obtain ⟨n, f, c, -⟩ := Y.nm
  exact ⟨_, c⟩
theorem mSt_sn {h h' : List va_E} {ad : Nat → Nat} {st : kS} {F : Nat → Option Nat} {G : Nat → Int32} {n b : Nat} {c : Int32} (E : ex_ h h') (c30 : h'[30]? = some (.inl (10, 16, .inr (.inr (.inr (.inr (va_up F st.length (some (ad n))))))))) (c31 : h'[31]? = some (.inl (4, 16, .inl (upd G st.length c)))) (hc : c = nI b) (hb : b ≤ 1) (hl : st.length < 16) (Y : yNo h' (ad n) n) (H : ∀ (i : Nat) e, st[i]? = some e → F i = some (ad e.1) ∧ yNo h (ad e.1) e.1 ∧ G i = nI e.2 ∧ e.2 ≤ 1) : mSt h' ad (st ++ [(n, b)]) := by
  refine ⟨_, _, c30, c31, by rw [List.length_append]; exact hl, fun i e he => ?_⟩
  unfold va_up upd
  by_cases q : i < st.length
  · rw [List.getElem?_append_left q] at he
    rw [if_neg (by omega), if_neg (by omega)]
    obtain ⟨a1, ⟨fs, a2⟩, a3⟩ := H i e he
    exact ⟨a1, ⟨fs, E _ _ a2⟩, a3⟩
  · have := gt_lt he
    rw [List.length_append, List.length_singleton] at this
    have : i = st.length := by omega
    subst this
    rw [List.getElem?_append_right (Nat.le_refl _), Nat.sub_self] at he
    cases he
    rw [if_pos rfl, if_pos rfl]
    exact ⟨rfl, Y, hc, hb⟩
abbrev wS : Nat → Prop := fun z => z = 23 ∨ z = 30 ∨ z = 31
theorem wS_zz : ∀ k, zz k → ¬ wS k := fun k q => by unfold zz at q; unfold wS; omega
def bG (g : kG) : Prop := ∀ e ∈ g, lNo e.1 < 2147483648
section NI
variable {X : Nat × (Nat → Int32)} {d : Nat} {h : List va_E} {Q : Option Value → List va_E → Prop} {ad : Nat → Nat} {J : List kL} {D : kD} {x y z md kc gn sp nc bc kn : Int32}
theorem m_wk1 {ga tb : Nat} {g t : kG} (hg : bG g) (ht : bG t) (j : Nat) (h : List va_E) (YA : yG h ad ga g) (YB : yG h ad tb t) (hj : j ≤ g.length) (c23 : h[23]? = some (mo x y z (mq (nI J.length) md (nI D.length) kc gn (nI (wk1 (g.drop j).reverse t).length) nc bc kn))) (MS : mSt h ad (wk1 (g.drop j).reverse t)) (k : ∀ h' x3, fr_ wS h h' → h'[23]? = some (mo x y z (mq (nI J.length) md (nI D.length) kc gn (nI (wk1 g.reverse t).length) nc bc kn)) → mSt h' ad (wk1 g.reverse t) → rt_ X (d + 1) 173 73 [some (.ref 23), some (.ref ga), some (.ref tb), x3] [] h' Q) : rt_ X (d + 1) 173 12 [some (.ref 23), some (.ref ga), some (.ref tb), some (.int (dI j))] [] h Q := by
  obtain ⟨rl, ci, RF, CF, ⟨-, cg⟩, ⟨zl, cl⟩, ⟨-, cc⟩, g8, HG⟩ := id YA
  unfold zz at zl
  obtain ⟨rl', ci', RF', CF', ⟨-, cg'⟩, -⟩ := id YB
  refine rt_k (k := 1) (pc' := 13) (L' := [some (.ref 23), some (.ref ga), some (.ref tb), some (.int (dI j))]) (st' := [.int (dI j)]) (h' := h) (fun _ => rfl) ?_
  refine rt_qlt rfl (fun z0 => ?_) (fun z0 => ?_)
  ·
    have e : j = 0 := (dI_lt (by omega)).mp z0
    subst e
    exact k h _ fr_rf c23 MS
  have hz : ¬ j = 0 := fun q => z0 ((dI_lt (by omega)).mpr q)
  obtain ⟨i, rfl⟩ : ∃ i, j = i + 1 := ⟨j - 1, by omega⟩
  rw [dI_s]
  obtain ⟨e, he⟩ := gt_ex (l := g) (i := i) (by omega)
  obtain ⟨f1, Ye, -⟩ := HG i e he
  have hm := List.mem_of_getElem? he
  have hw : (wk1 (g.drop (i + 1)).reverse t).length < 16 := by
    have := wk1_len (g.drop (i + 1)).reverse t
    rw [List.length_reverse, List.length_drop] at this
    omega
  obtain ⟨SF, SG, c30, c31, -, HS⟩ := id MS
  obtain ⟨nm9, ve9, nd9, nr9, bk9, br9, ow9, NF9, RF9, BF9, QF9, OF9, ⟨zr9, cr9⟩, ⟨-, cnd9⟩, ⟨-, cnr9⟩, ⟨-, cbk9⟩, ⟨-, cbr9⟩, ⟨-, cow9⟩, hln9, Sn9, Vn9, DN9, DB9, WO9⟩ := id (Ye)
  refine rt_k (k := 2) (pc' := 18) (L' := [some (.ref 23), some (.ref ga), some (.ref tb), some (.int (nI i))]) (st' := [.ref ga, .ref tb]) (h' := h) (fun _ => rfl) ?_
  refine rt_gf rfl cg rfl rfl ?_
  refine rt_k (k := 1) (pc' := 22) (L' := [some (.ref 23), some (.ref ga), some (.ref tb), some (.int (nI i))]) (st' := [.int (nI i), .ref rl, .ref tb]) (h' := h) (fun _ => rfl) ?_
  refine rt_aalN rfl cl rfl (by omega) (by decide) f1 ?_
  refine rt_cvE rfl (by decide) cg' rfl rfl rfl rfl (m_has YB Ye ⟨ht, hg e hm⟩) ?_
  refine rt_pe rfl (fun zi => ?_) (fun zi => ?_)
  rotate_left
  ·
    refine rt_k (k := 1) (pc' := 67) (L' := [some (.ref 23), some (.ref ga), some (.ref tb), some (.int (nI i))]) (st' := []) (h' := h) (fun _ => rfl) ?_
    refine rt_dcr rfl rfl ?_
    refine rt_k (k := 1) (pc' := 12) (L' := [some (.ref 23), some (.ref ga), some (.ref tb), some (.int (dI i))]) (st' := []) (h' := h) (fun _ => rfl) ?_
    have e1 : wk1 (g.drop i).reverse t = wk1 (g.drop (i + 1)).reverse t := by rw [drop_rv he, wk1_i zi]
    exact m_wk1 hg ht i h YA YB (by omega) (by rw [e1]; exact c23) (by rw [e1]; exact MS) k
  refine rt_k (k := 1) (pc' := 33) (L' := [some (.ref 23), some (.ref ga), some (.ref tb), some (.int (nI i))]) (st' := [.ref 23]) (h' := h) (fun _ => rfl) ?_
  refine rt_gf rfl c23 rfl rfl ?_
  refine rt_k (k := 1) (pc' := 37) (L' := [some (.ref 23), some (.ref ga), some (.ref tb), some (.int (nI i))]) (st' := [.ref 23, .ref 30]) (h' := h) (fun _ => rfl) ?_
  refine rt_gf rfl c23 rfl rfl ?_
  refine rt_k (k := 1) (pc' := 41) (L' := [some (.ref 23), some (.ref ga), some (.ref tb), some (.int (nI i))]) (st' := [.ref ga, .int (nI ((wk1 (g.drop (i + 1)).reverse t).length)), .ref 30]) (h' := h) (fun _ => rfl) ?_
  refine rt_gf rfl cg rfl rfl ?_
  refine rt_k (k := 1) (pc' := 45) (L' := [some (.ref 23), some (.ref ga), some (.ref tb), some (.int (nI i))]) (st' := [.int (nI i), .ref rl, .int (nI ((wk1 (g.drop (i + 1)).reverse t).length)), .ref 30]) (h' := h) (fun _ => rfl) ?_
  refine rt_aalN rfl cl rfl (by omega) (by decide) f1 ?_
  refine rt_aasN rfl c30 cr9 ⟨rfl, rfl⟩ (by omega) (by decide) ?_
  refine rt_nm (fun h_1 e_2 => ?_)
  have f_3 : fr_ (wS) h h_1 := by rw [e_2]; exact fr_set (e' := .inl (10, 16, .inr (.inr (.inr (.inr (va_up SF ((wk1 (g.drop (i + 1)).reverse t).length) (some (ad (lNo e.1))))))))) c30 (by rfl) (by first | decide | simp)
  have n_4 : h_1.length = h.length := by rw [e_2]; simp
  have c_5 : h_1[23]? = some (.inr (12, [.ref 24, .int x, .ref 25, .int y, .int z, .ref 26, .int (nI J.length), .int md, .ref 27, .ref 28, .int (nI D.length), .ref 29, .int kc, .int gn, .ref 30, .ref 31, .int (nI ((wk1 (g.drop (i + 1)).reverse t).length)), .ref 32, .int nc, .ref 33, .ref 34, .int bc, .int kn, .ref 35])) := by rw [e_2]; exact hs_ne c23 (by decide)
  have c_6 : h_1[ga]? = some (.inr (13, [.ref rl, .ref ci, .int (nI g.length)])) := by rw [e_2]; exact hs_ne cg (hc_ne c30 cg (by intro q; cases q))
  have c_7 : h_1[tb]? = some (.inr (13, [.ref rl', .ref ci', .int (nI t.length)])) := by rw [e_2]; exact hs_ne cg' (hc_ne c30 cg' (by intro q; cases q))
  have c_8 : h_1[rl]? = some (.inl (10, 8, .inr (.inr (.inr (.inr RF))))) := by rw [e_2]; exact hs_ne cl (by omega)
  have c_9 : h_1[30]? = some (.inl (10, 16, .inr (.inr (.inr (.inr (va_up SF ((wk1 (g.drop (i + 1)).reverse t).length) (some (ad (lNo e.1))))))))) := by rw [e_2]; exact hs_self c30
  have c_10 : h_1[31]? = some (.inl (4, 16, .inl SG)) := by rw [e_2]; exact hs_ne c31 (by decide)
  have c_11 : h_1[ad (lNo e.1)]? = some (.inr (14, [.int (nI (lNo e.1)), .ref nm9, .ref ve9, .ref nd9, .ref nr9, .int (nI ((lNe e.1).length)), .ref bk9, .ref br9, .int (nI ((lBr e.1).length)), .ref ow9, .int (nI ((lOw e.1).length))])) := by rw [e_2]; exact hs_ne cr9 (hc_ne c30 cr9 (by intro q; cases q))
  refine rt_k (k := 1) (pc' := 48) (L' := [some (.ref 23), some (.ref ga), some (.ref tb), some (.int (nI i))]) (st' := [.ref 23]) (h' := h_1) (fun _ => rfl) ?_
  refine rt_gf rfl c_5 rfl rfl ?_
  refine rt_k (k := 1) (pc' := 52) (L' := [some (.ref 23), some (.ref ga), some (.ref tb), some (.int (nI i))]) (st' := [.ref 23, .ref 31]) (h' := h_1) (fun _ => rfl) ?_
  refine rt_gf rfl c_5 rfl rfl ?_
  refine rt_k (k := 1) (pc' := 56) (L' := [some (.ref 23), some (.ref ga), some (.ref tb), some (.int (nI i))]) (st' := [.int (nI 0), .int (nI ((wk1 (g.drop (i + 1)).reverse t).length)), .ref 31]) (h' := h_1) (fun _ => rfl) ?_
  refine rt_zasN rfl c_10 rfl (by omega) (by decide) ?_
  refine rt_nm (fun h_12 e_13 => ?_)
  have f_14 : fr_ (wS) h h_12 := by rw [e_13]; exact fr_tr f_3 (fr_set (e' := .inl (4, 16, .inl (upd SG ((wk1 (g.drop (i + 1)).reverse t).length) (vp_nar .boolean (nI 0))))) c_10 (by rfl) (by first | decide | simp))
  have n_15 : h_12.length = h_1.length := by rw [e_13]; simp
  have c_16 : h_12[23]? = some (.inr (12, [.ref 24, .int x, .ref 25, .int y, .int z, .ref 26, .int (nI J.length), .int md, .ref 27, .ref 28, .int (nI D.length), .ref 29, .int kc, .int gn, .ref 30, .ref 31, .int (nI ((wk1 (g.drop (i + 1)).reverse t).length)), .ref 32, .int nc, .ref 33, .ref 34, .int bc, .int kn, .ref 35])) := by rw [e_13]; exact hs_ne c_5 (by decide)
  have c_17 : h_12[ga]? = some (.inr (13, [.ref rl, .ref ci, .int (nI g.length)])) := by rw [e_13]; exact hs_ne c_6 (hc_ne c_10 c_6 (by intro q; cases q))
  have c_18 : h_12[tb]? = some (.inr (13, [.ref rl', .ref ci', .int (nI t.length)])) := by rw [e_13]; exact hs_ne c_7 (hc_ne c_10 c_7 (by intro q; cases q))
  have c_19 : h_12[rl]? = some (.inl (10, 8, .inr (.inr (.inr (.inr RF))))) := by rw [e_13]; exact hs_ne c_8 (hc_ne c_10 c_8 (by intro q; cases q))
  have c_20 : h_12[30]? = some (.inl (10, 16, .inr (.inr (.inr (.inr (va_up SF ((wk1 (g.drop (i + 1)).reverse t).length) (some (ad (lNo e.1))))))))) := by rw [e_13]; exact hs_ne c_9 (by decide)
  have c_21 : h_12[31]? = some (.inl (4, 16, .inl (upd SG ((wk1 (g.drop (i + 1)).reverse t).length) (vp_nar .boolean (nI 0))))) := by rw [e_13]; exact hs_self c_10
  have c_22 : h_12[ad (lNo e.1)]? = some (.inr (14, [.int (nI (lNo e.1)), .ref nm9, .ref ve9, .ref nd9, .ref nr9, .int (nI ((lNe e.1).length)), .ref bk9, .ref br9, .int (nI ((lBr e.1).length)), .ref ow9, .int (nI ((lOw e.1).length))])) := by rw [e_13]; exact hs_ne c_11 (hc_ne c_10 c_11 (by intro q; cases q))
  refine rt_k (k := 2) (pc' := 59) (L' := [some (.ref 23), some (.ref ga), some (.ref tb), some (.int (nI i))]) (st' := [.ref 23, .ref 23]) (h' := h_12) (fun _ => rfl) ?_
  refine rt_gf rfl c_16 rfl rfl ?_
  refine rt_k (k := 1) (pc' := 63) (L' := [some (.ref 23), some (.ref ga), some (.ref tb), some (.int (nI i))]) (st' := [.int (nI 1), .int (nI ((wk1 (g.drop (i + 1)).reverse t).length)), .ref 23]) (h' := h_12) (fun _ => rfl) ?_
  refine rt_add rfl ?_
  refine rt_pf rfl c_16 ⟨rfl, (show 16 < 24 by decide), rfl⟩ ?_
  refine rt_nm (fun h_23 e_24 => ?_)
  have f_25 : fr_ (wS) h h_23 := by rw [e_24]; exact fr_tr f_14 (fr_set (e' := .inr (12, [.ref 24, .int x, .ref 25, .int y, .int z, .ref 26, .int (nI J.length), .int md, .ref 27, .ref 28, .int (nI D.length), .ref 29, .int kc, .int gn, .ref 30, .ref 31, .int (nI (((wk1 (g.drop (i + 1)).reverse t).length) + 1)), .ref 32, .int nc, .ref 33, .ref 34, .int bc, .int kn, .ref 35])) c_16 (by rfl) (by first | decide | simp))
  have n_26 : h_23.length = h_12.length := by rw [e_24]; simp
  have c_27 : h_23[23]? = some (.inr (12, [.ref 24, .int x, .ref 25, .int y, .int z, .ref 26, .int (nI J.length), .int md, .ref 27, .ref 28, .int (nI D.length), .ref 29, .int kc, .int gn, .ref 30, .ref 31, .int (nI (((wk1 (g.drop (i + 1)).reverse t).length) + 1)), .ref 32, .int nc, .ref 33, .ref 34, .int bc, .int kn, .ref 35])) := by rw [e_24]; exact hs_self c_16
  have c_28 : h_23[ga]? = some (.inr (13, [.ref rl, .ref ci, .int (nI g.length)])) := by rw [e_24]; exact hs_ne c_17 (hc_ne c_16 c_17 (by intro q; cases q))
  have c_29 : h_23[tb]? = some (.inr (13, [.ref rl', .ref ci', .int (nI t.length)])) := by rw [e_24]; exact hs_ne c_18 (hc_ne c_16 c_18 (by intro q; cases q))
  have c_30 : h_23[rl]? = some (.inl (10, 8, .inr (.inr (.inr (.inr RF))))) := by rw [e_24]; exact hs_ne c_19 (hc_ne c_16 c_19 (by intro q; cases q))
  have c_31 : h_23[30]? = some (.inl (10, 16, .inr (.inr (.inr (.inr (va_up SF ((wk1 (g.drop (i + 1)).reverse t).length) (some (ad (lNo e.1))))))))) := by rw [e_24]; exact hs_ne c_20 (by decide)
  have c_32 : h_23[31]? = some (.inl (4, 16, .inl (upd SG ((wk1 (g.drop (i + 1)).reverse t).length) (vp_nar .boolean (nI 0))))) := by rw [e_24]; exact hs_ne c_21 (by decide)
  have c_33 : h_23[ad (lNo e.1)]? = some (.inr (14, [.int (nI (lNo e.1)), .ref nm9, .ref ve9, .ref nd9, .ref nr9, .int (nI ((lNe e.1).length)), .ref bk9, .ref br9, .int (nI ((lBr e.1).length)), .ref ow9, .int (nI ((lOw e.1).length))])) := by rw [e_24]; exact hs_ne c_22 (hc_ne c_16 c_22 (by intro q; cases q))
  refine rt_dcr rfl rfl ?_
  refine rt_k (k := 1) (pc' := 12) (L' := [some (.ref 23), some (.ref ga), some (.ref tb), some (.int (dI i))]) (st' := []) (h' := h_23) (fun _ => rfl) ?_
  have FF := f_25
  have E := fr_ex FF wS_zz
  have k3 := c_27
  have e1 : wk1 (g.drop i).reverse t = wk1 (g.drop (i + 1)).reverse t ++ [(lNo e.1, 0)] := by rw [drop_rv he, wk1_o zi]
  have M1 := mSt_sn E c_31 c_32 vb0 (Nat.zero_le _) hw (Ye.ex E).no HS
  rw [← e1] at M1
  have el : (wk1 (g.drop i).reverse t).length = (wk1 (g.drop (i + 1)).reverse t).length + 1 := by rw [e1, List.length_append]; rfl
  rw [← el] at k3
  exact m_wk1 hg ht i _ (YA.ex E) (YB.ex E) (by omega) k3 M1 (fun h' x3 f' => k h' x3 (fr_tr FF f'))
termination_by j
theorem m_wk2 {ga tb : Nat} {g t : kG} {S1 : kS} (hg : bG g) (ht : bG t) (hS1 : S1.length ≤ 8) (j : Nat) (h : List va_E) (YA : yG h ad ga g) (YB : yG h ad tb t) (hj : j ≤ t.length) (c23 : h[23]? = some (mo x y z (mq (nI J.length) md (nI D.length) kc gn (nI (S1 ++ wk2 (t.take j) g).length) nc bc kn))) (MS : mSt h ad (S1 ++ wk2 (t.take j) g)) (k : ∀ h', fr_ wS h h' → h'[23]? = some (mo x y z (mq (nI J.length) md (nI D.length) kc gn (nI (S1 ++ wk2 t g).length) nc bc kn)) → mSt h' ad (S1 ++ wk2 t g) → Q none h') : rt_ X (d + 1) 173 75 [some (.ref 23), some (.ref ga), some (.ref tb), some (.int (nI j))] [] h Q := by
  obtain ⟨rl, ci, RF, CF, ⟨-, cg⟩, ⟨zl, cl⟩, ⟨-, cc⟩, g8, HG⟩ := id YB
  unfold zz at zl
  obtain ⟨rl', ci', RF', CF', ⟨-, cg'⟩, -⟩ := id YA
  obtain ⟨SF, SG, c30, c31, -, HS⟩ := id MS
  refine rt_k (k := 2) (pc' := 77) (L' := [some (.ref 23), some (.ref ga), some (.ref tb), some (.int (nI j))]) (st' := [.ref tb, .int (nI j)]) (h' := h) (fun _ => rfl) ?_
  refine rt_gf rfl cg rfl rfl ?_
  refine rt_ige rfl (by omega) (by omega) (fun z0 => ?_) (fun z0 => ?_)
  ·
    rw [List.take_of_length_le z0] at MS c23
    exact rt_r (v := none) rfl rfl (k h fr_rf c23 MS)
  obtain ⟨e, he⟩ := gt_ex z0
  obtain ⟨f1, Ye, -⟩ := HG j e he
  have hm := List.mem_of_getElem? he
  have hw : (S1 ++ wk2 (t.take j) g).length < 16 := by
    have := wk2_len (t.take j) g
    rw [List.length_take] at this
    rw [List.length_append]
    omega
  obtain ⟨nm9, ve9, nd9, nr9, bk9, br9, ow9, NF9, RF9, BF9, QF9, OF9, ⟨zr9, cr9⟩, ⟨-, cnd9⟩, ⟨-, cnr9⟩, ⟨-, cbk9⟩, ⟨-, cbr9⟩, ⟨-, cow9⟩, hln9, Sn9, Vn9, DN9, DB9, WO9⟩ := id (Ye)
  refine rt_k (k := 2) (pc' := 85) (L' := [some (.ref 23), some (.ref ga), some (.ref tb), some (.int (nI j))]) (st' := [.ref tb, .ref ga]) (h' := h) (fun _ => rfl) ?_
  refine rt_gf rfl cg rfl rfl ?_
  refine rt_k (k := 1) (pc' := 89) (L' := [some (.ref 23), some (.ref ga), some (.ref tb), some (.int (nI j))]) (st' := [.int (nI j), .ref rl, .ref ga]) (h' := h) (fun _ => rfl) ?_
  refine rt_aalN rfl cl rfl (by omega) (by decide) f1 ?_
  refine rt_cvE rfl (by decide) cg' rfl rfl rfl rfl (m_has YA Ye ⟨hg, ht e hm⟩) ?_
  refine rt_pe rfl (fun zi => ?_) (fun zi => ?_)
  rotate_left
  ·
    refine rt_k (k := 1) (pc' := 134) (L' := [some (.ref 23), some (.ref ga), some (.ref tb), some (.int (nI j))]) (st' := []) (h' := h) (fun _ => rfl) ?_
    refine rt_inc (c := 1) rfl rfl ?_
    refine rt_k (k := 1) (pc' := 75) (L' := [some (.ref 23), some (.ref ga), some (.ref tb), some (.int (nI (j + 1)))]) (st' := []) (h' := h) (fun _ => rfl) ?_
    have e1 : wk2 (t.take (j + 1)) g = wk2 (t.take j) g := by rw [take_sn he, wk2_i zi]
    exact m_wk2 hg ht hS1 (j + 1) h YA YB z0 (by rw [e1]; exact c23) (by rw [e1]; exact MS) k
  refine rt_k (k := 1) (pc' := 100) (L' := [some (.ref 23), some (.ref ga), some (.ref tb), some (.int (nI j))]) (st' := [.ref 23]) (h' := h) (fun _ => rfl) ?_
  refine rt_gf rfl c23 rfl rfl ?_
  refine rt_k (k := 1) (pc' := 104) (L' := [some (.ref 23), some (.ref ga), some (.ref tb), some (.int (nI j))]) (st' := [.ref 23, .ref 30]) (h' := h) (fun _ => rfl) ?_
  refine rt_gf rfl c23 rfl rfl ?_
  refine rt_k (k := 1) (pc' := 108) (L' := [some (.ref 23), some (.ref ga), some (.ref tb), some (.int (nI j))]) (st' := [.ref tb, .int (nI ((S1 ++ wk2 (t.take j) g).length)), .ref 30]) (h' := h) (fun _ => rfl) ?_
  refine rt_gf rfl cg rfl rfl ?_
  refine rt_k (k := 1) (pc' := 112) (L' := [some (.ref 23), some (.ref ga), some (.ref tb), some (.int (nI j))]) (st' := [.int (nI j), .ref rl, .int (nI ((S1 ++ wk2 (t.take j) g).length)), .ref 30]) (h' := h) (fun _ => rfl) ?_
  refine rt_aalN rfl cl rfl (by omega) (by decide) f1 ?_
  refine rt_aasN rfl c30 cr9 ⟨rfl, rfl⟩ (by omega) (by decide) ?_
  refine rt_nm (fun h_34 e_35 => ?_)
  have f_36 : fr_ (wS) h h_34 := by rw [e_35]; exact fr_set (e' := .inl (10, 16, .inr (.inr (.inr (.inr (va_up SF ((S1 ++ wk2 (t.take j) g).length) (some (ad (lNo e.1))))))))) c30 (by rfl) (by first | decide | simp)
  have n_37 : h_34.length = h.length := by rw [e_35]; simp
  have c_38 : h_34[23]? = some (.inr (12, [.ref 24, .int x, .ref 25, .int y, .int z, .ref 26, .int (nI J.length), .int md, .ref 27, .ref 28, .int (nI D.length), .ref 29, .int kc, .int gn, .ref 30, .ref 31, .int (nI ((S1 ++ wk2 (t.take j) g).length)), .ref 32, .int nc, .ref 33, .ref 34, .int bc, .int kn, .ref 35])) := by rw [e_35]; exact hs_ne c23 (by decide)
  have c_39 : h_34[tb]? = some (.inr (13, [.ref rl, .ref ci, .int (nI t.length)])) := by rw [e_35]; exact hs_ne cg (hc_ne c30 cg (by intro q; cases q))
  have c_40 : h_34[ga]? = some (.inr (13, [.ref rl', .ref ci', .int (nI g.length)])) := by rw [e_35]; exact hs_ne cg' (hc_ne c30 cg' (by intro q; cases q))
  have c_41 : h_34[rl]? = some (.inl (10, 8, .inr (.inr (.inr (.inr RF))))) := by rw [e_35]; exact hs_ne cl (by omega)
  have c_42 : h_34[30]? = some (.inl (10, 16, .inr (.inr (.inr (.inr (va_up SF ((S1 ++ wk2 (t.take j) g).length) (some (ad (lNo e.1))))))))) := by rw [e_35]; exact hs_self c30
  have c_43 : h_34[31]? = some (.inl (4, 16, .inl SG)) := by rw [e_35]; exact hs_ne c31 (by decide)
  have c_44 : h_34[ad (lNo e.1)]? = some (.inr (14, [.int (nI (lNo e.1)), .ref nm9, .ref ve9, .ref nd9, .ref nr9, .int (nI ((lNe e.1).length)), .ref bk9, .ref br9, .int (nI ((lBr e.1).length)), .ref ow9, .int (nI ((lOw e.1).length))])) := by rw [e_35]; exact hs_ne cr9 (hc_ne c30 cr9 (by intro q; cases q))
  refine rt_k (k := 1) (pc' := 115) (L' := [some (.ref 23), some (.ref ga), some (.ref tb), some (.int (nI j))]) (st' := [.ref 23]) (h' := h_34) (fun _ => rfl) ?_
  refine rt_gf rfl c_38 rfl rfl ?_
  refine rt_k (k := 1) (pc' := 119) (L' := [some (.ref 23), some (.ref ga), some (.ref tb), some (.int (nI j))]) (st' := [.ref 23, .ref 31]) (h' := h_34) (fun _ => rfl) ?_
  refine rt_gf rfl c_38 rfl rfl ?_
  refine rt_k (k := 1) (pc' := 123) (L' := [some (.ref 23), some (.ref ga), some (.ref tb), some (.int (nI j))]) (st' := [.int (nI 1), .int (nI ((S1 ++ wk2 (t.take j) g).length)), .ref 31]) (h' := h_34) (fun _ => rfl) ?_
  refine rt_zasN rfl c_43 rfl (by omega) (by decide) ?_
  refine rt_nm (fun h_45 e_46 => ?_)
  have f_47 : fr_ (wS) h h_45 := by rw [e_46]; exact fr_tr f_36 (fr_set (e' := .inl (4, 16, .inl (upd SG ((S1 ++ wk2 (t.take j) g).length) (vp_nar .boolean (nI 1))))) c_43 (by rfl) (by first | decide | simp))
  have n_48 : h_45.length = h_34.length := by rw [e_46]; simp
  have c_49 : h_45[23]? = some (.inr (12, [.ref 24, .int x, .ref 25, .int y, .int z, .ref 26, .int (nI J.length), .int md, .ref 27, .ref 28, .int (nI D.length), .ref 29, .int kc, .int gn, .ref 30, .ref 31, .int (nI ((S1 ++ wk2 (t.take j) g).length)), .ref 32, .int nc, .ref 33, .ref 34, .int bc, .int kn, .ref 35])) := by rw [e_46]; exact hs_ne c_38 (by decide)
  have c_50 : h_45[tb]? = some (.inr (13, [.ref rl, .ref ci, .int (nI t.length)])) := by rw [e_46]; exact hs_ne c_39 (hc_ne c_43 c_39 (by intro q; cases q))
  have c_51 : h_45[ga]? = some (.inr (13, [.ref rl', .ref ci', .int (nI g.length)])) := by rw [e_46]; exact hs_ne c_40 (hc_ne c_43 c_40 (by intro q; cases q))
  have c_52 : h_45[rl]? = some (.inl (10, 8, .inr (.inr (.inr (.inr RF))))) := by rw [e_46]; exact hs_ne c_41 (hc_ne c_43 c_41 (by intro q; cases q))
  have c_53 : h_45[30]? = some (.inl (10, 16, .inr (.inr (.inr (.inr (va_up SF ((S1 ++ wk2 (t.take j) g).length) (some (ad (lNo e.1))))))))) := by rw [e_46]; exact hs_ne c_42 (by decide)
  have c_54 : h_45[31]? = some (.inl (4, 16, .inl (upd SG ((S1 ++ wk2 (t.take j) g).length) (vp_nar .boolean (nI 1))))) := by rw [e_46]; exact hs_self c_43
  have c_55 : h_45[ad (lNo e.1)]? = some (.inr (14, [.int (nI (lNo e.1)), .ref nm9, .ref ve9, .ref nd9, .ref nr9, .int (nI ((lNe e.1).length)), .ref bk9, .ref br9, .int (nI ((lBr e.1).length)), .ref ow9, .int (nI ((lOw e.1).length))])) := by rw [e_46]; exact hs_ne c_44 (hc_ne c_43 c_44 (by intro q; cases q))
  refine rt_k (k := 2) (pc' := 126) (L' := [some (.ref 23), some (.ref ga), some (.ref tb), some (.int (nI j))]) (st' := [.ref 23, .ref 23]) (h' := h_45) (fun _ => rfl) ?_
  refine rt_gf rfl c_49 rfl rfl ?_
  refine rt_k (k := 1) (pc' := 130) (L' := [some (.ref 23), some (.ref ga), some (.ref tb), some (.int (nI j))]) (st' := [.int (nI 1), .int (nI ((S1 ++ wk2 (t.take j) g).length)), .ref 23]) (h' := h_45) (fun _ => rfl) ?_
  refine rt_add rfl ?_
  refine rt_pf rfl c_49 ⟨rfl, (show 16 < 24 by decide), rfl⟩ ?_
  refine rt_nm (fun h_56 e_57 => ?_)
  have f_58 : fr_ (wS) h h_56 := by rw [e_57]; exact fr_tr f_47 (fr_set (e' := .inr (12, [.ref 24, .int x, .ref 25, .int y, .int z, .ref 26, .int (nI J.length), .int md, .ref 27, .ref 28, .int (nI D.length), .ref 29, .int kc, .int gn, .ref 30, .ref 31, .int (nI (((S1 ++ wk2 (t.take j) g).length) + 1)), .ref 32, .int nc, .ref 33, .ref 34, .int bc, .int kn, .ref 35])) c_49 (by rfl) (by first | decide | simp))
  have n_59 : h_56.length = h_45.length := by rw [e_57]; simp
  have c_60 : h_56[23]? = some (.inr (12, [.ref 24, .int x, .ref 25, .int y, .int z, .ref 26, .int (nI J.length), .int md, .ref 27, .ref 28, .int (nI D.length), .ref 29, .int kc, .int gn, .ref 30, .ref 31, .int (nI (((S1 ++ wk2 (t.take j) g).length) + 1)), .ref 32, .int nc, .ref 33, .ref 34, .int bc, .int kn, .ref 35])) := by rw [e_57]; exact hs_self c_49
  have c_61 : h_56[tb]? = some (.inr (13, [.ref rl, .ref ci, .int (nI t.length)])) := by rw [e_57]; exact hs_ne c_50 (hc_ne c_49 c_50 (by intro q; cases q))
  have c_62 : h_56[ga]? = some (.inr (13, [.ref rl', .ref ci', .int (nI g.length)])) := by rw [e_57]; exact hs_ne c_51 (hc_ne c_49 c_51 (by intro q; cases q))
  have c_63 : h_56[rl]? = some (.inl (10, 8, .inr (.inr (.inr (.inr RF))))) := by rw [e_57]; exact hs_ne c_52 (hc_ne c_49 c_52 (by intro q; cases q))
  have c_64 : h_56[30]? = some (.inl (10, 16, .inr (.inr (.inr (.inr (va_up SF ((S1 ++ wk2 (t.take j) g).length) (some (ad (lNo e.1))))))))) := by rw [e_57]; exact hs_ne c_53 (by decide)
  have c_65 : h_56[31]? = some (.inl (4, 16, .inl (upd SG ((S1 ++ wk2 (t.take j) g).length) (vp_nar .boolean (nI 1))))) := by rw [e_57]; exact hs_ne c_54 (by decide)
  have c_66 : h_56[ad (lNo e.1)]? = some (.inr (14, [.int (nI (lNo e.1)), .ref nm9, .ref ve9, .ref nd9, .ref nr9, .int (nI ((lNe e.1).length)), .ref bk9, .ref br9, .int (nI ((lBr e.1).length)), .ref ow9, .int (nI ((lOw e.1).length))])) := by rw [e_57]; exact hs_ne c_55 (hc_ne c_49 c_55 (by intro q; cases q))
  refine rt_inc (c := 1) rfl rfl ?_
  refine rt_k (k := 1) (pc' := 75) (L' := [some (.ref 23), some (.ref ga), some (.ref tb), some (.int (nI (j + 1)))]) (st' := []) (h' := h_56) (fun _ => rfl) ?_
  have FF := f_58
  have E := fr_ex FF wS_zz
  have k3 := c_60
  have e1 : S1 ++ wk2 (t.take (j + 1)) g = (S1 ++ wk2 (t.take j) g) ++ [(lNo e.1, 1)] := by rw [take_sn he, wk2_o zi, List.append_assoc]
  have M1 := mSt_sn E c_64 c_65 vb1 (Nat.le_refl _) hw (Ye.ex E).no HS
  rw [← e1] at M1
  have el : (S1 ++ wk2 (t.take (j + 1)) g).length = (S1 ++ wk2 (t.take j) g).length + 1 := by rw [e1, List.length_append]; rfl
  rw [← el] at k3
  exact m_wk2 hg ht hS1 (j + 1) _ (YA.ex E) (YB.ex E) z0 k3 M1 (fun h' f' => k h' (fr_tr FF f'))
termination_by t.length - j
theorem m_walk {ga tb : Nat} {g t : kG} {st : kS} (hg : bG g) (ht : bG t) (YA : yG h ad ga g) (YB : yG h ad tb t) (c23 : h[23]? = some (mo x y z (mq (nI J.length) md (nI D.length) kc gn sp nc bc kn))) (MS : mSt h ad st) : rt_ X (d + 1) 173 0 [some (.ref 23), some (.ref ga), some (.ref tb), none] [] h (fun v h' => v = none ∧ fr_ wS h h' ∧ h'[23]? = some (mo x y z (mq (nI J.length) md (nI D.length) kc gn (nI (wkS g t).length) nc bc kn)) ∧ mSt h' ad (wkS g t)) := by
  obtain ⟨rl, ci, RF, CF, ⟨za, cg⟩, ⟨-, cl⟩, ⟨-, cc⟩, g8, HG⟩ := id YA
  obtain ⟨SF, SG, c30, c31, -, HS⟩ := id MS
  refine rt_k (k := 2) (pc' := 2) (L' := [some (.ref 23), some (.ref ga), some (.ref tb), none]) (st' := [.int (nI 0), .ref 23]) (h' := h) (fun _ => rfl) ?_
  refine rt_pf rfl c23 ⟨rfl, (show 16 < 24 by decide), rfl⟩ ?_
  refine rt_nm (fun h_67 e_68 => ?_)
  have f_69 : fr_ (wS) h h_67 := by rw [e_68]; exact fr_set (e' := .inr (12, [.ref 24, .int x, .ref 25, .int y, .int z, .ref 26, .int (nI J.length), .int md, .ref 27, .ref 28, .int (nI D.length), .ref 29, .int kc, .int gn, .ref 30, .ref 31, .int (nI 0), .ref 32, .int nc, .ref 33, .ref 34, .int bc, .int kn, .ref 35])) c23 (by rfl) (by first | decide | simp)
  have n_70 : h_67.length = h.length := by rw [e_68]; simp
  have c_71 : h_67[23]? = some (.inr (12, [.ref 24, .int x, .ref 25, .int y, .int z, .ref 26, .int (nI J.length), .int md, .ref 27, .ref 28, .int (nI D.length), .ref 29, .int kc, .int gn, .ref 30, .ref 31, .int (nI 0), .ref 32, .int nc, .ref 33, .ref 34, .int bc, .int kn, .ref 35])) := by rw [e_68]; exact hs_self c23
  have c_72 : h_67[ga]? = some (.inr (13, [.ref rl, .ref ci, .int (nI g.length)])) := by rw [e_68]; exact hs_ne cg (hc_ne c23 cg (by intro q; cases q))
  have c_73 : h_67[30]? = some (.inl (10, 16, .inr (.inr (.inr (.inr SF))))) := by rw [e_68]; exact hs_ne c30 (by decide)
  have c_74 : h_67[31]? = some (.inl (4, 16, .inl SG)) := by rw [e_68]; exact hs_ne c31 (by decide)
  refine rt_k (k := 1) (pc' := 6) (L' := [some (.ref 23), some (.ref ga), some (.ref tb), none]) (st' := [.ref ga]) (h' := h_67) (fun _ => rfl) ?_
  refine rt_gf rfl c_72 rfl rfl ?_
  refine rt_k (k := 1) (pc' := 10) (L' := [some (.ref 23), some (.ref ga), some (.ref tb), none]) (st' := [.int (nI 1), .int (nI g.length)]) (h' := h_67) (fun _ => rfl) ?_
  have FF := f_69
  have E := fr_ex FF wS_zz
  have k3 := c_71
  have M1 : mSt h_67 ad (wk1 (g.drop g.length).reverse t) := by
    rw [List.drop_length]
    exact ⟨SF, SG, c_73, c_74, Nat.zero_le _, fun i e he => by simp [wk1] at he⟩
  have k3' : h_67[23]? = some (mo x y z (mq (nI J.length) md (nI D.length) kc gn (nI (wk1 (g.drop g.length).reverse t).length) nc bc kn)) := by rw [List.drop_length]; exact k3
  have e1 : nI g.length - nI 1 = dI g.length := by rw [← dI_d, show Int32.ofInt (-1) = - nI 1 from by decide, ← Int32.sub_eq_add_neg]
  refine rt_k (k := 2) (pc' := 12) (L' := [some (.ref 23), some (.ref ga), some (.ref tb), some (.int (dI g.length))]) (st' := []) (h' := h_67) (fun _ => by rw [← e1]; rfl) ?_
  refine m_wk1 hg ht g.length _ (YA.ex E) (YB.ex E) (Nat.le_refl _) k3' M1 (fun h2 x3 f2 d23 M2 => ?_)
  have E2 := fr_ex f2 wS_zz
  have l1 := wk1_len g.reverse t
  rw [List.length_reverse] at l1
  refine rt_k (k := 2) (pc' := 75) (L' := [some (.ref 23), some (.ref ga), some (.ref tb), some (.int (nI 0))]) (st' := []) (h' := h2) (fun _ => by cases x3 <;> rfl) ?_
  refine m_wk2 (S1 := wk1 g.reverse t) hg ht (by omega) 0 h2 ((YA.ex E).ex E2) ((YB.ex E).ex E2) (Nat.zero_le _) (by rw [List.take_zero]; exact (List.append_nil (wk1 g.reverse t)).symm ▸ d23) (by rw [List.take_zero]; exact (List.append_nil (wk1 g.reverse t)).symm ▸ M2) (fun h3 f3 e23 M3 => ⟨rfl, fr_tr FF (fr_tr f2 f3), e23, M3⟩)
end NI

