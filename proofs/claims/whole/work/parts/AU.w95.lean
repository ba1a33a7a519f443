/-! THE REFERENCE, 30: find, best. -/
theorem fm_s0 {B : List (Option kL)} {i : Nat} (h : B[i]? = some none) : (B.take (i + 1)).filterMap id = (B.take i).filterMap id := by
  rw [take_sn h, List.filterMap_append]
  show _ ++ [] = _
  rw [List.append_nil]
theorem fm_s1 {B : List (Option kL)} {i : Nat} {r : kL} (h : B[i]? = some (some r)) : (B.take (i + 1)).filterMap id = (B.take i).filterMap id ++ [r] := by
  rw [take_sn h, List.filterMap_append]
  rfl
theorem yLs.sn {h : List va_E} {ad : Nat → Nat} {F : Nat → Option Nat} {L : List kL} {r : kL} (C : yLs h ad F L) (Y : yL h (ad (lNo r)) r) : yLs h ad (va_up F L.length (some (ad (lNo r)))) (L ++ [r]) := fun i s hs => by
  unfold va_up
  by_cases q : i < L.length
  · rw [List.getElem?_append_left q] at hs
    rw [if_neg (by omega)]
    exact C i s hs
  · have := gt_lt hs
    rw [List.length_append, List.length_singleton] at this
    have : i = L.length := by omega
    subst this
    rw [List.getElem?_append_right (Nat.le_refl _), Nat.sub_self] at hs
    cases hs
    rw [if_pos rfl]
    exact ⟨rfl, Y⟩
def i32c (w : Int32) : Prop := w = 0 ∨ w = 1 ∨ (¬ w = 0 ∧ ¬ w = 1)
theorem i32_c (w : Int32) : i32c w := by
  by_cases a : w = 0
  · exact Or.inl a
  · by_cases b : w = 1
    · exact Or.inr (Or.inl b)
    · exact Or.inr (Or.inr ⟨a, b⟩)
theorem i32_le1 {w : Int32} (a : ¬ w < 0) (b : w ≤ nI 1) : w = 0 ∨ w = 1 := by
  rw [Int32.lt_iff_toInt_lt] at a
  rw [Int32.le_iff_toInt_le] at b
  rw [nI_toInt (by decide)] at b
  rw [← Int32.toInt_inj, ← Int32.toInt_inj]
  have h0 : (0 : Int32).toInt = 0 := by decide
  have h1 : (1 : Int32).toInt = 1 := by decide
  rw [h0] at a ⊢
  rw [h1]
  omega
theorem i32_n {k : Int32} {n : Nat} (hn : n < 2147483648) (a : ¬ k < 0) (b : k < nI n) : ∃ j, j < n ∧ k = nI j := by
  rw [Int32.lt_iff_toInt_lt] at a b
  rw [nI_toInt hn] at b
  have h0 : (0 : Int32).toInt = 0 := by decide
  rw [h0] at a
  refine ⟨k.toInt.toNat, by omega, ?_⟩
  rw [← Int32.toInt_inj, nI_toInt (by omega)]
  omega
abbrev fF : Nat → Prop := fun z => z = 23 ∨ z = 32 ∨ z = 33 ∨ z = 34 ∨ z = 35
theorem fF_zz : ∀ k, zz k → ¬ fF k := fun k q => by unfold zz at q; unfold fF; omega
section NE
variable {X : Nat × (Nat → Int32)} {d : Nat} {h : List va_E} {Q : Option Value → List va_E → Prop} {ad : Nat → Nat} {J : List kL} {D : kD} {x y z md kc gn sp nc bc kn : Int32}
variable {N : List kW} {B : List (Option kL)} {F : Nat → Option Nat}
theorem m_fi1 {h0 : List va_E} (hl : B.length = N.length) (k : ∀ (h' : List va_E) (BF : Nat → Option Nat), fr_ (fun z => z = 23 ∨ z = 34) h0 h' → h'[23]? = some (mo x y z (mq (nI J.length) md (nI D.length) kc gn sp (nI N.length) (nI (B.filterMap id).length) kn)) → h'[34]? = some (.inl (10, 8, .inr (.inr (.inr (.inr BF))))) → yLs h' ad BF (B.filterMap id) → Q none h') (i : Nat) (hi : i ≤ N.length) (h : List va_E) (FR : fr_ (fun z => z = 23 ∨ z = 34) h0 h) (c23 : h[23]? = some (mo x y z (mq (nI J.length) md (nI D.length) kc gn sp (nI N.length) (nI ((B.take i).filterMap id).length) kn))) (CA : yA h ad 33 F B) (BF : Nat → Option Nat) (c34 : h[34]? = some (.inl (10, 8, .inr (.inr (.inr (.inr BF)))))) (Y : yLs h ad BF ((B.take i).filterMap id)) : rt_ X d 157 38 [some (.ref 23), some (.int (nI i))] [] h Q := by
  obtain ⟨ca, hA, HA⟩ := id CA
  have lt : ((B.take i).filterMap id).length ≤ i := by
    have := List.length_filterMap_le (id : Option kL → Option kL) (B.take i)
    rw [List.length_take] at this
    omega
  refine rt_k (k := 2) (pc' := 40) (L' := [some (.ref 23), some (.int (nI i))]) (st' := [.ref 23, .int (nI i)]) (h' := h) (fun _ => rfl) ?_
  refine rt_gf rfl c23 rfl rfl ?_
  refine rt_ige rfl (by omega) (by omega) (fun z0 => ?_) (fun z0 => ?_)
  ·
    have e : i = B.length := by omega
    subst e
    rw [List.take_length] at c23 Y
    exact rt_r (v := none) rfl rfl (k h BF FR c23 c34 Y)
  obtain ⟨x0, hx⟩ := gt_ex (show i < B.length by omega)
  have Y0 := HA i x0 hx
  cases x0 with
  | none =>
    have f1 : F i = none := Y0
    refine rt_k (k := 1) (pc' := 47) (L' := [some (.ref 23), some (.int (nI i))]) (st' := [.ref 23]) (h' := h) (fun _ => rfl) ?_
    refine rt_gf rfl c23 rfl rfl ?_
    refine rt_k (k := 1) (pc' := 51) (L' := [some (.ref 23), some (.int (nI i))]) (st' := [.int (nI i), .ref 33]) (h' := h) (fun _ => rfl) ?_
    refine rt_aalO rfl ca rfl (by omega) (by decide) f1 ?_
    refine rt_k (k := 2) (pc' := 83) (L' := [some (.ref 23), some (.int (nI i))]) (st' := []) (h' := h) (fun _ => rfl) ?_
    refine rt_inc (c := 1) rfl rfl ?_
    refine rt_k (k := 1) (pc' := 38) (L' := [some (.ref 23), some (.int (nI (i + 1)))]) (st' := []) (h' := h) (fun _ => rfl) ?_
    exact m_fi1 hl k (i + 1) z0 h FR (by rw [fm_s0 hx]; exact c23) CA BF c34 (by rw [fm_s0 hx]; exact Y)
  | some r =>
    obtain ⟨f1, Yr⟩ := Y0
    have e1 := fm_s1 hx
    obtain ⟨nm9, ve9, nd9, nr9, bk9, br9, ow9, NF9, RF9, BF9, QF9, OF9, ⟨zr9, cr9⟩, ⟨-, cnd9⟩, ⟨-, cnr9⟩, ⟨-, cbk9⟩, ⟨-, cbr9⟩, ⟨-, cow9⟩, hln9, Sn9, Vn9, DN9, DB9, WO9⟩ := id (Yr)
    refine rt_k (k := 1) (pc' := 47) (L' := [some (.ref 23), some (.int (nI i))]) (st' := [.ref 23]) (h' := h) (fun _ => rfl) ?_
    refine rt_gf rfl c23 rfl rfl ?_
    refine rt_k (k := 1) (pc' := 51) (L' := [some (.ref 23), some (.int (nI i))]) (st' := [.int (nI i), .ref 33]) (h' := h) (fun _ => rfl) ?_
    refine rt_aalN rfl ca rfl (by omega) (by decide) f1 ?_
    refine rt_k (k := 2) (pc' := 59) (L' := [some (.ref 23), some (.int (nI i))]) (st' := [.ref 23]) (h' := h) (fun _ => rfl) ?_
    refine rt_gf rfl c23 rfl rfl ?_
    refine rt_k (k := 1) (pc' := 63) (L' := [some (.ref 23), some (.int (nI i))]) (st' := [.ref 23, .ref 34]) (h' := h) (fun _ => rfl) ?_
    refine rt_gf rfl c23 rfl rfl ?_
    refine rt_k (k := 1) (pc' := 67) (L' := [some (.ref 23), some (.int (nI i))]) (st' := [.ref 23, .int (nI (((B.take i).filterMap id).length)), .ref 34]) (h' := h) (fun _ => rfl) ?_
    refine rt_gf rfl c23 rfl rfl ?_
    refine rt_k (k := 1) (pc' := 71) (L' := [some (.ref 23), some (.int (nI i))]) (st' := [.int (nI i), .ref 33, .int (nI (((B.take i).filterMap id).length)), .ref 34]) (h' := h) (fun _ => rfl) ?_
    refine rt_aalN rfl ca rfl (by omega) (by decide) f1 ?_
    refine rt_aasN rfl c34 cr9 ⟨rfl, rfl⟩ (by omega) (by decide) ?_
    refine rt_nm (fun h_1 e_2 => ?_)
    have f_3 : fr_ (fun z => z = 23 ∨ z = 34) h h_1 := by rw [e_2]; exact fr_set (e' := .inl (10, 8, .inr (.inr (.inr (.inr (va_up BF (((B.take i).filterMap id).length) (some (ad (lNo r))))))))) c34 (by rfl) (by first | decide | simp)
    have n_4 : h_1.length = h.length := by rw [e_2]; simp
    have c_5 : h_1[23]? = some (.inr (12, [.ref 24, .int x, .ref 25, .int y, .int z, .ref 26, .int (nI J.length), .int md, .ref 27, .ref 28, .int (nI D.length), .ref 29, .int kc, .int gn, .ref 30, .ref 31, .int sp, .ref 32, .int (nI N.length), .ref 33, .ref 34, .int (nI (((B.take i).filterMap id).length)), .int kn, .ref 35])) := by rw [e_2]; exact hs_ne c23 (by decide)
    have c_6 : h_1[33]? = some (.inl (10, 8, .inr (.inr (.inr (.inr F))))) := by rw [e_2]; exact hs_ne ca (by decide)
    have c_7 : h_1[34]? = some (.inl (10, 8, .inr (.inr (.inr (.inr (va_up BF (((B.take i).filterMap id).length) (some (ad (lNo r))))))))) := by rw [e_2]; exact hs_self c34
    have c_8 : h_1[ad (lNo r)]? = some (.inr (14, [.int (nI (lNo r)), .ref nm9, .ref ve9, .ref nd9, .ref nr9, .int (nI ((lNe r).length)), .ref bk9, .ref br9, .int (nI ((lBr r).length)), .ref ow9, .int (nI ((lOw r).length))])) := by rw [e_2]; exact hs_ne cr9 (hc_ne c34 cr9 (by intro q; cases q))
    refine rt_k (k := 2) (pc' := 75) (L' := [some (.ref 23), some (.int (nI i))]) (st' := [.ref 23, .ref 23]) (h' := h_1) (fun _ => rfl) ?_
    refine rt_gf rfl c_5 rfl rfl ?_
    refine rt_k (k := 1) (pc' := 79) (L' := [some (.ref 23), some (.int (nI i))]) (st' := [.int (nI 1), .int (nI (((B.take i).filterMap id).length)), .ref 23]) (h' := h_1) (fun _ => rfl) ?_
    refine rt_add rfl ?_
    refine rt_pf rfl c_5 ⟨rfl, (show 21 < 24 by decide), rfl⟩ ?_
    refine rt_nm (fun h_9 e_10 => ?_)
    have f_11 : fr_ (fun z => z = 23 ∨ z = 34) h h_9 := by rw [e_10]; exact fr_tr f_3 (fr_set (e' := .inr (12, [.ref 24, .int x, .ref 25, .int y, .int z, .ref 26, .int (nI J.length), .int md, .ref 27, .ref 28, .int (nI D.length), .ref 29, .int kc, .int gn, .ref 30, .ref 31, .int sp, .ref 32, .int (nI N.length), .ref 33, .ref 34, .int (nI ((((B.take i).filterMap id).length) + 1)), .int kn, .ref 35])) c_5 (by rfl) (by first | decide | simp))
    have n_12 : h_9.length = h_1.length := by rw [e_10]; simp
    have c_13 : h_9[23]? = some (.inr (12, [.ref 24, .int x, .ref 25, .int y, .int z, .ref 26, .int (nI J.length), .int md, .ref 27, .ref 28, .int (nI D.length), .ref 29, .int kc, .int gn, .ref 30, .ref 31, .int sp, .ref 32, .int (nI N.length), .ref 33, .ref 34, .int (nI ((((B.take i).filterMap id).length) + 1)), .int kn, .ref 35])) := by rw [e_10]; exact hs_self c_5
    have c_14 : h_9[33]? = some (.inl (10, 8, .inr (.inr (.inr (.inr F))))) := by rw [e_10]; exact hs_ne c_6 (by decide)
    have c_15 : h_9[34]? = some (.inl (10, 8, .inr (.inr (.inr (.inr (va_up BF (((B.take i).filterMap id).length) (some (ad (lNo r))))))))) := by rw [e_10]; exact hs_ne c_7 (by decide)
    have c_16 : h_9[ad (lNo r)]? = some (.inr (14, [.int (nI (lNo r)), .ref nm9, .ref ve9, .ref nd9, .ref nr9, .int (nI ((lNe r).length)), .ref bk9, .ref br9, .int (nI ((lBr r).length)), .ref ow9, .int (nI ((lOw r).length))])) := by rw [e_10]; exact hs_ne c_8 (hc_ne c_5 c_8 (by intro q; cases q))
    refine rt_inc (c := 1) rfl rfl ?_
    refine rt_k (k := 1) (pc' := 38) (L' := [some (.ref 23), some (.int (nI (i + 1)))]) (st' := []) (h' := h_9) (fun _ => rfl) ?_
    have FF := f_11
    have E := fr_ex FF (fun k q => by unfold zz at q; omega)
    have k3 := c_13
    have k4 := c_15
    have CA' : yA _ ad 33 F B := ⟨c_14, hA, fun j u hu => (HA j u hu).ex E⟩
    have Y' := (Y.ex E).sn (Yr.ex E)
    rw [← e1] at Y'
    have el : ((B.take (i + 1)).filterMap id).length = ((B.take i).filterMap id).length + 1 := by rw [e1, List.length_append]; rfl
    rw [← el] at k3
    exact m_fi1 hl k (i + 1) z0 _ (fr_tr FR FF) k3 CA' _ k4 Y'
termination_by N.length - i
end NE
section NF
variable {X : Nat × (Nat → Int32)} {d : Nat} {h : List va_E} {Q : Option Value → List va_E → Prop} {ad : Nat → Nat} {T : List Nat} {J : List kL} {nx : Nat} {D : kD} {K : List kG} {made : Nat} {st : kS}
def fnP (h0 : List va_E) (ad : Nat → Nat) (T : List Nat) (J : List kL) (nx : Nat) (D : kD) (K : List kG) (made : Nat) (st : kS) (v : Option Value) (h' : List va_E) : Prop := v = none ∧ fr_ fF h0 h' ∧ mKp h' ad T J nx D K made st ∧ ∃ (nw pa nc bc : Int32) (BF : Nat → Option Nat), h'[23]? = some (mo (nI T.length) nw pa (mq (nI J.length) (nI nx) (nI D.length) (nI K.length) (nI made) (nI st.length) nc bc (nI 1))) ∧ h'[34]? = some (.inl (10, 8, .inr (.inr (.inr (.inr BF))))) ∧ mCb h' ad J D BF bc
theorem mKp.fn {h' : List va_E} {nw pa nc bc : Int32} {NF CF BF : Nat → Option Nat} {G : Nat → Int32} (C : mKp h ad T J nx D K made st) (FR : fr_ fF h h') (d23 : h'[23]? = some (mo (nI T.length) nw pa (mq (nI J.length) (nI nx) (nI D.length) (nI K.length) (nI made) (nI st.length) nc bc (nI 1)))) (d32 : h'[32]? = some (.inl (9, 8, .inr (.inr (.inr (.inr NF)))))) (d33 : h'[33]? = some (.inl (10, 8, .inr (.inr (.inr (.inr CF)))))) (d34 : h'[34]? = some (.inl (10, 8, .inr (.inr (.inr (.inr BF)))))) (d35 : h'[35]? = some (.inl (4, 8, .inl G))) (q : mCb h' ad J D BF bc) : mKp h' ad T J nx D K made st := by
  obtain ⟨l, -, ⟨⟨g, t1, t2⟩, t3, t4⟩, W, CI, CD, CK, CS⟩ := C
  have E := fr_ex FR fF_zz
  have e : ∀ k, ¬ fF k → h'[k]? = h[k]? := fun k hn => FR.2.2 k hn
  exact ⟨by rw [FR.1]; exact l, ⟨nw, pa, nc, bc, nI 1, d23, ⟨NF, d32⟩, ⟨CF, d33⟩, ⟨G, d35⟩, BF, d34, Or.inr ⟨rfl, q⟩⟩, ⟨⟨g, (e 24 (by decide)).trans t1, t2⟩, t3, t4⟩, W.ex E (e 25 (by decide)), CI.ex E (e 26 (by decide)), CD.ex E (e 27 (by decide)) (e 28 (by decide)), CK.ex E (e 29 (by decide)), CS.ex E (e 30 (by decide)) (e 31 (by decide))⟩
theorem m_find (C : mKp h ad T J nx D K made st) (h8 : ∀ i N, nmS (J.take i) N → N.length ≤ 8) (sm : ∀ r ∈ J, smW (lNm r)) (ju : jU J) : rt_ X (d + 20) 157 0 [some (.ref 23), none] [] h (fnP h ad T J nx D K made st) := by
  obtain ⟨l39, ⟨nw, pa, nc, bc, kn, c23, CA⟩, TT, W, CI, CD, CK, CS⟩ := id C
  obtain ⟨⟨NF0, c32⟩, ⟨CF, c33⟩, ⟨G, c35⟩, BF, c34, hk⟩ := id CA
  rcases hk with rfl | ⟨rfl, q⟩
  rotate_left
  · have t0 := trivial
    refine rt_k (k := 1) (pc' := 1) (L' := [some (.ref 23), none]) (st' := [.ref 23]) (h' := h) (fun _ => rfl) ?_
    refine rt_gf rfl c23 rfl rfl ?_
    refine rt_k (k := 1) (pc' := 7) (L' := [some (.ref 23), none]) (st' := []) (h' := h) (fun _ => rfl) ?_
    exact rt_r (v := none) rfl rfl (⟨rfl, fr_rf, C, nw, pa, nc, bc, BF, c23, c34, q⟩)
  refine rt_k (k := 1) (pc' := 1) (L' := [some (.ref 23), none]) (st' := [.ref 23]) (h' := h) (fun _ => rfl) ?_
  refine rt_gf rfl c23 rfl rfl ?_
  refine rt_k (k := 3) (pc' := 10) (L' := [some (.ref 23), none]) (st' := [.int (nI 1), .ref 23]) (h' := h) (fun _ => rfl) ?_
  refine rt_pf rfl c23 ⟨rfl, (show 22 < 24 by decide), rfl⟩ ?_
  refine rt_nm (fun h_17 e_18 => ?_)
  have f_19 : fr_ (fun z => z = 23) h h_17 := by rw [e_18]; exact fr_set (e' := .inr (12, [.ref 24, .int (nI T.length), .ref 25, .int nw, .int pa, .ref 26, .int (nI J.length), .int (nI nx), .ref 27, .ref 28, .int (nI D.length), .ref 29, .int (nI K.length), .int (nI made), .ref 30, .ref 31, .int (nI st.length), .ref 32, .int nc, .ref 33, .ref 34, .int bc, .int (nI 1), .ref 35])) c23 (by rfl) (by first | decide | simp)
  have n_20 : h_17.length = h.length := by rw [e_18]; simp
  have c_21 : h_17[23]? = some (.inr (12, [.ref 24, .int (nI T.length), .ref 25, .int nw, .int pa, .ref 26, .int (nI J.length), .int (nI nx), .ref 27, .ref 28, .int (nI D.length), .ref 29, .int (nI K.length), .int (nI made), .ref 30, .ref 31, .int (nI st.length), .ref 32, .int nc, .ref 33, .ref 34, .int bc, .int (nI 1), .ref 35])) := by rw [e_18]; exact hs_self c23
  refine rt_k (k := 1) (pc' := 14) (L' := [some (.ref 23), none]) (st' := [.ref 23]) (h' := h_17) (fun _ => rfl) ?_
  have F1 := f_19
  have d23 := c_21
  generalize h_17 = h1 at *
  have E1 := fr_ex F1 (fun k q => by unfold zz at q; omega)
  refine rt_cv rfl (by decide) d23 rfl rfl rfl rfl (m_listNames (ad := ad) (J := J) (D := D) (d := d + 14) h8 sm d23 NF0 (fr_at F1 (by decide) c32) (CI.ex E1 (F1.2.2 26 (by decide)))) ?_
  rintro _ h2 ⟨rfl, F2, N, NF2, n1, n2, k23, k32, kW⟩
  have E2 := fr_ex F2 (fun k q => by unfold zz at q; omega)
  refine rt_k (k := 2) (pc' := 19) (L' := [some (.ref 23), none]) (st' := [.int (-1), .ref 23]) (h' := h2) (fun _ => rfl) ?_
  refine rt_pf rfl k23 ⟨rfl, (show 21 < 24 by decide), rfl⟩ ?_
  refine rt_nm (fun h_22 e_23 => ?_)
  have f_24 : fr_ (fun z => z = 23) h2 h_22 := by rw [e_23]; exact fr_set (e' := .inr (12, [.ref 24, .int (nI T.length), .ref 25, .int nw, .int pa, .ref 26, .int (nI J.length), .int (nI nx), .ref 27, .ref 28, .int (nI D.length), .ref 29, .int (nI K.length), .int (nI made), .ref 30, .ref 31, .int (nI st.length), .ref 32, .int (nI N.length), .ref 33, .ref 34, .int (-1), .int (nI 1), .ref 35])) k23 (by rfl) (by first | decide | simp)
  have n_25 : h_22.length = h2.length := by rw [e_23]; simp
  have c_26 : h_22[23]? = some (.inr (12, [.ref 24, .int (nI T.length), .ref 25, .int nw, .int pa, .ref 26, .int (nI J.length), .int (nI nx), .ref 27, .ref 28, .int (nI D.length), .ref 29, .int (nI K.length), .int (nI made), .ref 30, .ref 31, .int (nI st.length), .ref 32, .int (nI N.length), .ref 33, .ref 34, .int (-1), .int (nI 1), .ref 35])) := by rw [e_23]; exact hs_self k23
  refine rt_k (k := 2) (pc' := 24) (L' := [some (.ref 23), none]) (st' := [.int (nI 0), .ref 23]) (h' := h_22) (fun _ => rfl) ?_
  have F3 := f_24
  have m23 := c_26
  generalize h_22 = h3 at *
  have E3 := fr_ex F3 (fun k q => by unfold zz at q; omega)
  have FR3 : fr_ fF h h3 := fr_tr (fr_mo F1 (fun k q => Or.inl q)) (fr_tr (fr_mo F2 (fun k q => by unfold fF; omega)) (fr_mo F3 (fun k q => Or.inl q)))
  have EA := fr_ex FR3 fF_zz
  have m33 := fr_at F3 (by decide) (fr_at F2 (by decide) (fr_at F1 (by decide) c33))
  have m34 := fr_at F3 (by decide) (fr_at F2 (by decide) (fr_at F1 (by decide) c34))
  have m35 := fr_at F3 (by decide) (fr_at F2 (by decide) (fr_at F1 (by decide) c35))
  have S : sC h3 ad J D N (nI T.length) nw pa (nI nx) (nI K.length) (nI made) (nI st.length) (-1) (nI 1) := ⟨m23, CI.ex EA (FR3.2.2 26 (by decide)), CD.ex EA (FR3.2.2 27 (by decide)) (FR3.2.2 28 (by decide)), ⟨NF2, fr_at F3 (by decide) k32, kW.ex E3⟩, n2, G, m35⟩
  have sr := m_search (X := X) ju n1 N.length (d + 8 - N.length) h3 CF [] (by simp) S ⟨m33, Nat.zero_le _, fun i u q => by simp at q⟩ ⟨Nat.zero_le _, fun k r q => by simp at q⟩
  rw [show d + 8 - N.length + N.length + 11 = d + 19 by omega] at sr
  refine rt_cv rfl (by decide) m23 rfl rfl rfl rfl sr ?_
  rintro _ h4 ⟨F4, ⟨G4, g4⟩, (⟨rfl, B, F5, b1, b2, b3, b4, b5⟩ | ⟨rfl, ⟨F5, b1⟩, b2⟩)⟩
  · have k4 := fr_at F4 (by decide) m23
    have f34 := fr_at F4 (by decide) m34
    have fn : fnd J D (some (B.filterMap id)) := ⟨N, n1, B, b2, rfl, b4, fun A' a1 a2 => b5 A' a1 (fun i hi => absurd hi (Nat.not_lt_zero _)) a2⟩
    refine rt_k (k := 3) (pc' := 33) (L' := [some (.ref 23), none]) (st' := [.int (nI 0), .ref 23]) (h' := h4) (fun _ => rfl) ?_
    refine rt_pf rfl k4 ⟨rfl, (show 21 < 24 by decide), rfl⟩ ?_
    refine rt_nm (fun h_27 e_28 => ?_)
    have f_29 : fr_ (fun z => z = 23) h4 h_27 := by rw [e_28]; exact fr_set (e' := .inr (12, [.ref 24, .int (nI T.length), .ref 25, .int nw, .int pa, .ref 26, .int (nI J.length), .int (nI nx), .ref 27, .ref 28, .int (nI D.length), .ref 29, .int (nI K.length), .int (nI made), .ref 30, .ref 31, .int (nI st.length), .ref 32, .int (nI N.length), .ref 33, .ref 34, .int (nI 0), .int (nI 1), .ref 35])) k4 (by rfl) (by first | decide | simp)
    have n_30 : h_27.length = h4.length := by rw [e_28]; simp
    have c_31 : h_27[23]? = some (.inr (12, [.ref 24, .int (nI T.length), .ref 25, .int nw, .int pa, .ref 26, .int (nI J.length), .int (nI nx), .ref 27, .ref 28, .int (nI D.length), .ref 29, .int (nI K.length), .int (nI made), .ref 30, .ref 31, .int (nI st.length), .ref 32, .int (nI N.length), .ref 33, .ref 34, .int (nI 0), .int (nI 1), .ref 35])) := by rw [e_28]; exact hs_self k4
    refine rt_k (k := 2) (pc' := 38) (L' := [some (.ref 23), some (.int (nI 0))]) (st' := []) (h' := h_27) (fun _ => rfl) ?_
    have F6 := f_29
    have k6 := c_31
    generalize h_27 = h5 at *
    have E6 := fr_ex F6 (fun k q => by unfold zz at q; omega)
    have FR5 : fr_ fF h h5 := fr_tr FR3 (fr_tr (fr_mo F4 (fun k q => by unfold sF at q; unfold fF; omega)) (fr_mo F6 (fun k q => Or.inl q)))
    have f32 := fr_at F6 (by decide) (fr_at F4 (by decide) (fr_at F3 (by decide) k32))
    have f35 := fr_at F6 (by decide) g4
    refine m_fi1 (h0 := h5) (B := B) (N := N) (kn := nI 1) b2.1 (fun h9 BF9 F9 j23 j34 j9 => ?_) 0 (Nat.zero_le _) h5 fr_rf k6 (b1.ex E6 (F6.2.2 33 (by decide))) BF (fr_at F6 (by decide) f34) (fun i r q => by simp at q)
    have E9 := fr_ex F9 (fun k q => by unfold zz at q; omega)
    have FR9 : fr_ fF h h9 := fr_tr FR5 (fr_mo F9 (fun k q => by unfold fF; omega))
    have l8 : (B.filterMap id).length ≤ 8 := by
      have := List.length_filterMap_le (id : Option kL → Option kL) B
      have := b2.1
      omega
    have mc : mCb h9 ad J D BF9 (nI (B.filterMap id).length) := Or.inr ⟨_, rfl, l8, fn, j9⟩
    exact ⟨rfl, FR9, C.fn FR9 j23 (fr_at F9 (by decide) f32) (fr_at F9 (by decide) (fr_at F6 (by decide) b1.1)) j34 (fr_at F9 (by decide) f35) mc, nw, pa, _, _, BF9, j23, j34, mc⟩
  · have k4 := fr_at F4 (by decide) m23
    have fn : fnd J D none := ⟨N, n1, fun A' a1 a2 => b2 A' a1 (fun i hi => absurd hi (Nat.not_lt_zero _)) a2⟩
    have FR4 : fr_ fF h h4 := fr_tr FR3 (fr_mo F4 (fun k q => by unfold sF at q; unfold fF; omega))
    refine rt_k (k := 1) (pc' := 30) (L' := [some (.ref 23), none]) (st' := []) (h' := h4) (fun _ => rfl) ?_
    exact rt_r (v := none) rfl rfl (⟨rfl, FR4, C.fn FR4 k4 (fr_at F4 (by decide) (fr_at F3 (by decide) k32)) b1.1 (fr_at F4 (by decide) m34) g4 (Or.inl ⟨rfl, fn⟩), nw, pa, _, _, BF, k4, fr_at F4 (by decide) m34, Or.inl ⟨rfl, fn⟩⟩)

theorem m_best (C : mKp h ad T J nx D K made st) (h8 : ∀ i N, nmS (J.take i) N → N.length ≤ 8) (sm : ∀ r ∈ J, smW (lNm r)) (ju : jU J) (k : Int32) : rt_ X (d + 21) 156 0 [some (.ref 23), some (.int k)] [] h (fun v h' => fr_ fF h h' ∧ mKp h' ad T J nx D K made st ∧ bsR J D k v) := by
  obtain ⟨l39, ⟨nw0, pa0, nc0, bc0, kn0, c23, -⟩, -⟩ := id C
  refine rt_k (k := 1) (pc' := 1) (L' := [some (.ref 23), some (.int k)]) (st' := [.ref 23]) (h' := h) (fun _ => rfl) ?_
  refine rt_cv rfl (by decide) c23 rfl rfl rfl rfl (m_find (d := d) C h8 sm ju) ?_
  rintro _ h1 ⟨rfl, F1, C1, nw, pa, nc, bc, BF, d23, d34, (⟨rfl, fn⟩ | ⟨B, rfl, l8, fn, Y⟩)⟩
  ·
    refine rt_k (k := 1) (pc' := 5) (L' := [some (.ref 23), some (.int k)]) (st' := [.ref 23]) (h' := h1) (fun _ => rfl) ?_
    refine rt_gf rfl d23 rfl rfl ?_
    refine rt_k (k := 2) (pc' := 13) (L' := [some (.ref 23), some (.int k)]) (st' := [.int (-2)]) (h' := h1) (fun _ => rfl) ?_
    exact rt_r (v := some (.int (-2))) rfl rfl (⟨F1, C1, Or.inl ⟨fn, rfl⟩⟩)
  refine rt_k (k := 1) (pc' := 5) (L' := [some (.ref 23), some (.int k)]) (st' := [.ref 23]) (h' := h1) (fun _ => rfl) ?_
  refine rt_gf rfl d23 rfl rfl ?_
  refine rt_zge rfl (by omega) ?_
  refine rt_k (k := 2) (pc' := 16) (L' := [some (.ref 23), some (.int k)]) (st' := [.int (-1), .int k]) (h' := h1) (fun _ => rfl) ?_
  refine rt_jne rfl (fun z1 => ?_) (fun z1 => ?_)
  rotate_left
  ·
    refine rt_k (k := 1) (pc' := 20) (L' := [some (.ref 23), some (.int k)]) (st' := [.ref 23]) (h' := h1) (fun _ => rfl) ?_
    refine rt_gf rfl d23 rfl rfl ?_
    exact rt_r (v := some (.int (nI B.length))) rfl rfl (⟨F1, C1, Or.inr ⟨B, fn, Or.inl ⟨z1, rfl⟩⟩⟩)
  by_cases hk : ∃ j, j < B.length ∧ k = nI j
  · obtain ⟨j, hj, rfl⟩ := hk
    obtain ⟨r, hr⟩ := gt_ex hj
    obtain ⟨f1, Yr⟩ := Y j r hr
    obtain ⟨nm9, ve9, nd9, nr9, bk9, br9, ow9, NF9, RF9, BF9, QF9, OF9, ⟨zr9, cr9⟩, ⟨-, cnd9⟩, ⟨-, cnr9⟩, ⟨-, cbk9⟩, ⟨-, cbr9⟩, ⟨-, cow9⟩, hln9, Sn9, Vn9, DN9, DB9, WO9⟩ := id (Yr)
    refine rt_k (k := 1) (pc' := 25) (L' := [some (.ref 23), some (.int (nI j))]) (st' := [.int (nI j)]) (h' := h1) (fun _ => rfl) ?_
    refine rt_zlt rfl (by omega) ?_
    refine rt_k (k := 2) (pc' := 30) (L' := [some (.ref 23), some (.int (nI j))]) (st' := [.ref 23, .int (nI j)]) (h' := h1) (fun _ => rfl) ?_
    refine rt_gf rfl d23 rfl rfl ?_
    refine rt_ilt rfl (by omega) (by omega) (fun _ => ?_) (fun z => absurd z ((by omega)))
    refine rt_k (k := 1) (pc' := 42) (L' := [some (.ref 23), some (.int (nI j))]) (st' := [.ref 23]) (h' := h1) (fun _ => rfl) ?_
    refine rt_gf rfl d23 rfl rfl ?_
    refine rt_k (k := 1) (pc' := 46) (L' := [some (.ref 23), some (.int (nI j))]) (st' := [.int (nI j), .ref 34]) (h' := h1) (fun _ => rfl) ?_
    refine rt_aalN rfl d34 rfl (by omega) (by decide) f1 ?_
    refine rt_gf rfl cr9 rfl rfl ?_
    exact rt_r (v := some (.int (nI (lNo r)))) rfl rfl (⟨F1, C1, Or.inr ⟨B, fn, Or.inr ⟨z1, Or.inl ⟨j, r, rfl, hr, rfl⟩⟩⟩⟩)
  · have no : ∀ j, j < B.length → ¬ k = nI j := fun j hj e => hk ⟨j, hj, e⟩
    refine rt_k (k := 1) (pc' := 25) (L' := [some (.ref 23), some (.int k)]) (st' := [.int k]) (h' := h1) (fun _ => rfl) ?_
    refine rt_qlt rfl (fun z2 => ?_) (fun z2 => ?_)
    rotate_left
    ·
      refine rt_k (k := 2) (pc' := 30) (L' := [some (.ref 23), some (.int k)]) (st' := [.ref 23, .int k]) (h' := h1) (fun _ => rfl) ?_
      refine rt_gf rfl d23 rfl rfl ?_
      refine rt_jlt rfl (fun z3 => ?_) (fun z3 => ?_)
      rotate_left
      ·
        refine rt_k (k := 2) (pc' := 50) (L' := [some (.ref 23), some (.int k)]) (st' := [.int (-2)]) (h' := h1) (fun _ => rfl) ?_
        exact rt_r (v := some (.int (-2))) rfl rfl (⟨F1, C1, Or.inr ⟨B, fn, Or.inr ⟨z1, Or.inr ⟨no, rfl⟩⟩⟩⟩)
      exact absurd (i32_n (by omega) z2 z3) hk
    refine rt_k (k := 2) (pc' := 50) (L' := [some (.ref 23), some (.int k)]) (st' := [.int (-2)]) (h' := h1) (fun _ => rfl) ?_
    exact rt_r (v := some (.int (-2))) rfl rfl (⟨F1, C1, Or.inr ⟨B, fn, Or.inr ⟨z1, Or.inr ⟨no, rfl⟩⟩⟩⟩)
end NF

