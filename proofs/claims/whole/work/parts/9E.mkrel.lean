/-! RELEASES made; PATHS read. -/
section LM
variable {X : Nat × (Nat → Int32)} {d M pc r : Nat} {L : ab_Lo} {st : List Value} {h : List va_E} {Q : Option Value → List va_E → Prop} {T : List Nat} {f b p : Nat} {ws : List kW}
theorem rt_nwL {n : Nat} (hi : ab_k (tb_il M) pc = some (.newarray .long, r)) (ht : tb_at[r]? = some .long) (hn : n ≤ 1000000) (k : rt_ X d M (pc + 2) L (.ref h.length :: st) (h ++ [.inl (r, n, .inr (.inl (fun _ => 0)))]) Q) : rt_ X d M pc L (.int (nI n) :: st) h Q :=
  rt_s1 hi (by simp only [ab_x, ab_n]; rw [if_neg (nw_0 hn), if_pos ht, nI_clamp (by omega)]) k
theorem rt_acL {idx a0 a t0 t1 n0 n1 sp dp n : Nat} {f g : Nat → Int64} (hi : ab_k (tb_il M) pc = some (.invokestatic idx, 6666)) (h0 : h[a0]? = some (.inl (t0, n0, .inr (.inl f)))) (h1 : h[a]? = some (.inl (t1, n1, .inr (.inl g)))) (ha : a0 ≠ a) (ht0 : tb_at[t0]? = some .long) (ht1 : tb_at[t1]? = some .long) (hs : sp + n ≤ n0) (hd : dp + n ≤ n1) (hb : n0 ≤ 1000000 ∧ n1 ≤ 1000000) (hst : (st.map fun v => v.category).sum ≤ 2) (k : rt_ X d M (pc + 3) L st (h.set a (.inl (t1, n1, .inr (.inl (va_cpy f g sp dp n))))) Q) : rt_ X d M pc L (.int (nI n) :: .int (nI dp) :: .ref a :: .int (nI sp) :: .ref a0 :: st) h Q := by
  refine rt_s1 hi ?_ k
  simp only [ab_x, ab_n, h0, h1]
  rw [if_pos trivial, if_pos]
  · rw [nI_clamp (by omega), nI_clamp (by omega), nI_clamp (by omega)]
  · unfold ab_cy
    simp only [Bool.and_eq_true, decide_eq_true_eq]
    rw [nI_clamp (by omega), nI_clamp (by omega), nI_clamp (by omega)]
    exact ⟨⟨⟨⟨⟨⟨⟨⟨ha, ht0⟩, ht1⟩, nI_pos (by omega)⟩, nI_pos (by omega)⟩, nI_pos (by omega)⟩, hs⟩, hd⟩, hst⟩
theorem dmd_mk {a m : Nat} (hm : m ≤ 6) (ca : h[a]? = some (.inr (4, [.null, .null, .int (nI 0)]))) : rt_ X d 4 0 [some (.ref a), some (.int (nI m))] [] h (fun v h' => v = none ∧ gr (fun z => z = a) 2 (m + m) h h' ∧ h'.length = h.length + 2 ∧ dD h' a h.length (h.length + 1) m (fun _ => 0) (fun _ => none) []) := by
  have hl := hc_lt ca
  refine rt_k (k := 4) (pc' := 6) (L' := [some (.ref a), some (.int (nI m))]) (st' := [.int (nI m), .ref a]) (h' := h) (fun _ => rfl) ?_
  refine rt_nwL rfl rfl (by omega) ?_
  refine rt_nm (fun h_1 e_2 => ?_)
  have g_3 : gr (fun z => z = a) 1 (m) h h_1 := by rw [e_2]; exact gr_mo (gr_tr (gr_rf (h := h)) (gr_app (.inl (1, m, .inr (.inl (fun _ => 0)))))) (fun _ q => q) (by first | exact Nat.le_refl _ | omega) (by first | exact Nat.le_refl _ | (simp only [ab_z]; omega))
  have n_4 : h_1.length = h.length + 1 := by rw [e_2]; simp
  have c_5 : h_1[a]? = some (.inr (4, [.null, .null, .int (nI 0)])) := by rw [e_2]; exact ha_old _ ca
  have c_6 : h_1[h.length]? = some (.inl (1, m, .inr (.inl (fun _ => 0)))) := by rw [e_2]; exact ha_new
  refine rt_pf rfl c_5 ⟨rfl, (show 0 < 3 by decide), rfl⟩ ?_
  refine rt_nm (fun h_7 e_8 => ?_)
  have g_9 : gr (fun z => z = a) 1 (m) h h_7 := by rw [e_8]; exact gr_mo (gr_tr g_3 (gr_fr (fr_set (e' := .inr (4, [.ref h.length, .null, .int (nI 0)])) c_5 (by rfl) (by first | decide | simp)))) (fun _ q => q) (by first | exact Nat.le_refl _ | omega) (by first | exact Nat.le_refl _ | (simp only [ab_z]; omega))
  have n_10 : h_7.length = h_1.length := by rw [e_8]; simp
  have c_11 : h_7[a]? = some (.inr (4, [.ref h.length, .null, .int (nI 0)])) := by rw [e_8]; exact hs_self c_5
  have c_12 : h_7[h.length]? = some (.inl (1, m, .inr (.inl (fun _ => 0)))) := by rw [e_8]; exact hs_ne c_6 (hc_ne c_5 c_6 (by intro q; cases q))
  refine rt_k (k := 2) (pc' := 13) (L' := [some (.ref a), some (.int (nI m))]) (st' := [.int (nI m), .ref a]) (h' := h_7) (fun _ => rfl) ?_
  refine rt_na rfl rfl (by omega) ?_
  refine rt_nm (fun h_13 e_14 => ?_)
  have g_15 : gr (fun z => z = a) 2 (m + m) h h_13 := by rw [e_14]; exact gr_mo (gr_tr g_9 (gr_app (.inl (6, m, .inr (.inr (.inr (.inr (fun _ => none)))))))) (fun _ q => q) (by first | exact Nat.le_refl _ | omega) (by first | exact Nat.le_refl _ | (simp only [ab_z]; omega))
  have n_16 : h_13.length = h_7.length + 1 := by rw [e_14]; simp
  have c_17 : h_13[a]? = some (.inr (4, [.ref h.length, .null, .int (nI 0)])) := by rw [e_14]; exact ha_old _ c_11
  have c_18 : h_13[h.length]? = some (.inl (1, m, .inr (.inl (fun _ => 0)))) := by rw [e_14]; exact ha_old _ c_12
  have c_19 : h_13[h_7.length]? = some (.inl (6, m, .inr (.inr (.inr (.inr (fun _ => none)))))) := by rw [e_14]; exact ha_new
  refine rt_pf rfl c_17 ⟨rfl, (show 1 < 3 by decide), rfl⟩ ?_
  refine rt_nm (fun h_20 e_21 => ?_)
  have g_22 : gr (fun z => z = a) 2 (m + m) h h_20 := by rw [e_21]; exact gr_mo (gr_tr g_15 (gr_fr (fr_set (e' := .inr (4, [.ref h.length, .ref h_7.length, .int (nI 0)])) c_17 (by rfl) (by first | decide | simp)))) (fun _ q => q) (by first | exact Nat.le_refl _ | omega) (by first | exact Nat.le_refl _ | (simp only [ab_z]; omega))
  have n_23 : h_20.length = h_13.length := by rw [e_21]; simp
  have c_24 : h_20[a]? = some (.inr (4, [.ref h.length, .ref h_7.length, .int (nI 0)])) := by rw [e_21]; exact hs_self c_17
  have c_25 : h_20[h.length]? = some (.inl (1, m, .inr (.inl (fun _ => 0)))) := by rw [e_21]; exact hs_ne c_18 (hc_ne c_17 c_18 (by intro q; cases q))
  have c_26 : h_20[h_7.length]? = some (.inl (6, m, .inr (.inr (.inr (.inr (fun _ => none)))))) := by rw [e_21]; exact hs_ne c_19 (hc_ne c_17 c_19 (by intro q; cases q))
  have e1 : h_7.length = h.length + 1 := by omega
  have cc := c_24
  have cd := c_26
  rw [e1] at cc cd
  exact rt_r (v := none) rfl rfl ⟨rfl, g_22, by omega, cc, c_25, cd, Nat.zero_le _, hm, fun i e he => by cases he⟩
/-- a release while it is made -/
def lMk (h : List va_E) (a v nd n1 g1 bk n2 g2 ps : Nat) (r : kL) : Prop := (∃ N G, dD h nd n1 g1 6 N G (lNe r)) ∧ (∃ N G, dD h bk n2 g2 3 N G (lBr r)) ∧ h[a]? = some (.inr (9, [.int (nI (lNo r)), .long (nmI (lNm r)), .ref v, .ref nd, .ref bk, .ref ps, .int (nI (lOw r).length)])) ∧ (∃ pf : Nat → Int64, h[ps]? = some (.inl (1, 12, .inr (.inl pf))) ∧ zPf pf (lOw r)) ∧ (lOw r).length ≤ 4 ∧ zV h v (lVe r)
theorem lMk.z {a v nd n1 g1 bk n2 g2 ps : Nat} {r : kL} (C : lMk h a v nd n1 g1 bk n2 g2 ps r) (ha : zz a ∧ zz nd ∧ zz n1 ∧ zz g1 ∧ zz bk ∧ zz n2 ∧ zz g2 ∧ zz ps) : zL h a r := by
  obtain ⟨⟨N1, G1, a1, a2, a3, a4, a5, a6⟩, ⟨N2, G2, b1, b2, b3, b4, b5, b6⟩, c, ⟨pf, e1, e2⟩, e3, V⟩ := C
  obtain ⟨z1, z2, z3, z4, z5, z6, z7, z8⟩ := ha
  exact ⟨v, nd, bk, ps, pf, ⟨z1, c⟩, V, ⟨n1, g1, N1, G1, ⟨z2, a1⟩, ⟨z3, a2⟩, ⟨z4, a3⟩, a4, a5, a6⟩, ⟨n2, g2, N2, G2, ⟨z5, b1⟩, ⟨z6, b2⟩, ⟨z7, b3⟩, b4, b5, b6⟩, ⟨z8, e1⟩, e3, e2⟩
theorem lMk.ex {h' : List va_E} {a v nd n1 g1 bk n2 g2 ps : Nat} {r : kL} (C : lMk h a v nd n1 g1 bk n2 g2 ps r) (E : ex_ h h') (ha : zz a ∧ zz nd ∧ zz n1 ∧ zz g1 ∧ zz bk ∧ zz n2 ∧ zz g2 ∧ zz ps) : lMk h' a v nd n1 g1 bk n2 g2 ps r := by
  obtain ⟨⟨N1, G1, a1, a2, a3, a4, a5, a6⟩, ⟨N2, G2, b1, b2, b3, b4, b5, b6⟩, c, ⟨pf, e1, e2⟩, e3, V⟩ := C
  obtain ⟨z1, z2, z3, z4, z5, z6, z7, z8⟩ := ha
  exact ⟨⟨N1, G1, (E _ _ ⟨z2, a1⟩).2, (E _ _ ⟨z3, a2⟩).2, (E _ _ ⟨z4, a3⟩).2, a4, a5, a6.ex E⟩, ⟨N2, G2, (E _ _ ⟨z5, b1⟩).2, (E _ _ ⟨z6, b2⟩).2, (E _ _ ⟨z7, b3⟩).2, b4, b5, b6.ex E⟩, (E _ _ ⟨z1, c⟩).2, ⟨pf, (E _ _ ⟨z8, e1⟩).2, e2⟩, e3, V.ex E⟩
theorem rel_mk {a v no : Nat} {w : kW} {u : kV} (ca : h[a]? = some (.inr (9, [.int (nI 0), .long 0, .null, .null, .null, .null, .int (nI 0)]))) (V : zV h v u) : rt_ X (d + 1) 41 0 [some (.ref a), some (.int (nI no)), some (.long (nmI w)), none, some (.ref v)] [] h (fun r h' => r = none ∧ gr (fun z => z = a) 7 36 h h' ∧ lMk h' a v h.length (h.length + 1) (h.length + 2) (h.length + 3) (h.length + 4) (h.length + 5) (h.length + 6) (no, w, u, [], [], [])) := by
  have hl := hc_lt ca
  refine rt_k (k := 4) (pc' := 6) (L' := [some (.ref a), some (.int (nI no)), some (.long (nmI w)), none, some (.ref v)]) (st' := [.int (nI no), .ref a]) (h' := h) (fun _ => rfl) ?_
  refine rt_pf rfl ca ⟨rfl, (show 0 < 7 by decide), rfl⟩ ?_
  refine rt_nm (fun h_27 e_28 => ?_)
  have g_29 : gr (fun z => z = a) 0 (0) h h_27 := by rw [e_28]; exact gr_mo (gr_tr (gr_rf (h := h)) (gr_fr (fr_set (e' := .inr (9, [.int (nI no), .long 0, .null, .null, .null, .null, .int (nI 0)])) ca (by rfl) (by first | decide | simp)))) (fun _ q => q) (by first | exact Nat.le_refl _ | omega) (by first | exact Nat.le_refl _ | (simp only [ab_z]; omega))
  have n_30 : h_27.length = h.length := by rw [e_28]; simp
  have c_31 : h_27[a]? = some (.inr (9, [.int (nI no), .long 0, .null, .null, .null, .null, .int (nI 0)])) := by rw [e_28]; exact hs_self ca
  refine rt_k (k := 2) (pc' := 11) (L' := [some (.ref a), some (.int (nI no)), some (.long (nmI w)), none, some (.ref v)]) (st' := [.long (nmI w), .ref a]) (h' := h_27) (fun _ => rfl) ?_
  refine rt_pf rfl c_31 ⟨rfl, (show 1 < 7 by decide), rfl⟩ ?_
  refine rt_nm (fun h_32 e_33 => ?_)
  have g_34 : gr (fun z => z = a) 0 (0) h h_32 := by rw [e_33]; exact gr_mo (gr_tr g_29 (gr_fr (fr_set (e' := .inr (9, [.int (nI no), .long (nmI w), .null, .null, .null, .null, .int (nI 0)])) c_31 (by rfl) (by first | decide | simp)))) (fun _ q => q) (by first | exact Nat.le_refl _ | omega) (by first | exact Nat.le_refl _ | (simp only [ab_z]; omega))
  have n_35 : h_32.length = h_27.length := by rw [e_33]; simp
  have c_36 : h_32[a]? = some (.inr (9, [.int (nI no), .long (nmI w), .null, .null, .null, .null, .int (nI 0)])) := by rw [e_33]; exact hs_self c_31
  refine rt_k (k := 2) (pc' := 17) (L' := [some (.ref a), some (.int (nI no)), some (.long (nmI w)), none, some (.ref v)]) (st' := [.ref v, .ref a]) (h' := h_32) (fun _ => rfl) ?_
  refine rt_pf rfl c_36 ⟨rfl, (show 2 < 7 by decide), rfl⟩ ?_
  refine rt_nm (fun h_37 e_38 => ?_)
  have g_39 : gr (fun z => z = a) 0 (0) h h_37 := by rw [e_38]; exact gr_mo (gr_tr g_34 (gr_fr (fr_set (e' := .inr (9, [.int (nI no), .long (nmI w), .ref v, .null, .null, .null, .int (nI 0)])) c_36 (by rfl) (by first | decide | simp)))) (fun _ q => q) (by first | exact Nat.le_refl _ | omega) (by first | exact Nat.le_refl _ | (simp only [ab_z]; omega))
  have n_40 : h_37.length = h_32.length := by rw [e_38]; simp
  have c_41 : h_37[a]? = some (.inr (9, [.int (nI no), .long (nmI w), .ref v, .null, .null, .null, .int (nI 0)])) := by rw [e_38]; exact hs_self c_36
  refine rt_k (k := 1) (pc' := 21) (L' := [some (.ref a), some (.int (nI no)), some (.long (nmI w)), none, some (.ref v)]) (st' := [.ref a]) (h' := h_37) (fun _ => rfl) ?_
  have lA0 : h_37.length = h.length := by omega
  refine rt_k (k := 1) (pc' := 24) (L' := [some (.ref a), some (.int (nI no)), some (.long (nmI w)), none, some (.ref v)]) (st' := [.ref h_37.length, .ref a]) (h' := (h_37 ++ [.inr (4, [.null, .null, .int (nI 0)])])) (fun _ => rfl) ?_
  refine rt_nm (fun h_42 e_43 => ?_)
  have g_44 : gr (fun z => z = a) 1 (3) h h_42 := by rw [e_43]; exact gr_mo (gr_tr g_39 (gr_app (.inr (4, [.null, .null, .int (nI 0)])))) (fun _ q => q) (by first | exact Nat.le_refl _ | omega) (by first | exact Nat.le_refl _ | (simp only [ab_z]; omega))
  have n_45 : h_42.length = h_37.length + 1 := by rw [e_43]; simp
  have c_46 : h_42[a]? = some (.inr (9, [.int (nI no), .long (nmI w), .ref v, .null, .null, .null, .int (nI 0)])) := by rw [e_43]; exact ha_old _ c_41
  have c_47 : h_42[h_37.length]? = some (.inr (4, [.null, .null, .int (nI 0)])) := by rw [e_43]; exact ha_new
  refine rt_k (k := 2) (pc' := 27) (L' := [some (.ref a), some (.int (nI no)), some (.long (nmI w)), none, some (.ref v)]) (st' := [.int (nI 6), .ref h_37.length, .ref h_37.length, .ref a]) (h' := h_42) (fun _ => rfl) ?_
  have gA := g_44
  have cA := c_46
  have cN := c_47
  have lA : h_42.length = h.length + 1 := by omega
  rw [lA0] at cN
  generalize h_42 = hA at *
  rw [lA0]
  refine rt_c rfl rfl (dmd_mk (m := 6) (by decide) cN) ?_
  rintro _ h1 ⟨rfl, g1, l1, D1⟩
  have cA1 := gr_at g1 cA (by omega)
  have g01 : gr (fun z => z = a) 3 15 h h1 := ⟨by omega, by omega, by have := gA.2.2.1; have := g1.2.2.1; omega, fun k hk hn => (g1.2.2.2 k (by omega) (by omega)).trans (gA.2.2.2 k hk hn)⟩
  rw [lA] at D1
  refine rt_pf rfl cA1 ⟨rfl, (show 3 < 7 by decide), rfl⟩ ?_
  refine rt_nm (fun h_48 e_49 => ?_)
  have g_50 : gr (fun z => z = a) 0 (0) h1 h_48 := by rw [e_49]; exact gr_mo (gr_tr (gr_rf (h := h1)) (gr_fr (fr_set (e' := .inr (9, [.int (nI no), .long (nmI w), .ref v, .ref h.length, .null, .null, .int (nI 0)])) cA1 (by rfl) (by first | decide | simp)))) (fun _ q => q) (by first | exact Nat.le_refl _ | omega) (by first | exact Nat.le_refl _ | (simp only [ab_z]; omega))
  have n_51 : h_48.length = h1.length := by rw [e_49]; simp
  have c_52 : h_48[a]? = some (.inr (9, [.int (nI no), .long (nmI w), .ref v, .ref h.length, .null, .null, .int (nI 0)])) := by rw [e_49]; exact hs_self cA1
  refine rt_k (k := 1) (pc' := 34) (L' := [some (.ref a), some (.int (nI no)), some (.long (nmI w)), none, some (.ref v)]) (st' := [.ref a]) (h' := h_48) (fun _ => rfl) ?_
  have lB0 : h_48.length = h1.length := by omega
  refine rt_k (k := 1) (pc' := 37) (L' := [some (.ref a), some (.int (nI no)), some (.long (nmI w)), none, some (.ref v)]) (st' := [.ref h_48.length, .ref a]) (h' := (h_48 ++ [.inr (4, [.null, .null, .int (nI 0)])])) (fun _ => rfl) ?_
  refine rt_nm (fun h_53 e_54 => ?_)
  have g_55 : gr (fun z => z = a) 1 (3) h1 h_53 := by rw [e_54]; exact gr_mo (gr_tr g_50 (gr_app (.inr (4, [.null, .null, .int (nI 0)])))) (fun _ q => q) (by first | exact Nat.le_refl _ | omega) (by first | exact Nat.le_refl _ | (simp only [ab_z]; omega))
  have n_56 : h_53.length = h_48.length + 1 := by rw [e_54]; simp
  have c_57 : h_53[a]? = some (.inr (9, [.int (nI no), .long (nmI w), .ref v, .ref h.length, .null, .null, .int (nI 0)])) := by rw [e_54]; exact ha_old _ c_52
  have c_58 : h_53[h_48.length]? = some (.inr (4, [.null, .null, .int (nI 0)])) := by rw [e_54]; exact ha_new
  refine rt_k (k := 1) (pc' := 38) (L' := [some (.ref a), some (.int (nI no)), some (.long (nmI w)), none, some (.ref v)]) (st' := [.ref h_48.length, .ref h_48.length, .ref a]) (h' := h_53) (fun _ => rfl) ?_
  have gB := g_55
  have cB := c_57
  have cN2 := c_58
  have lB : h_53.length = h1.length + 1 := by omega
  rw [lB0] at cN2
  generalize h_53 = hB at *
  rw [lB0]
  have dd1 : ∀ hh : List va_E, (∀ k, k < h1.length → ¬ k = a → hh[k]? = h1[k]?) → dD hh h.length (h.length + 1) (h.length + 1 + 1) 6 (fun _ => 0) (fun _ => none) [] := fun hh e => by
    obtain ⟨u1, u2, u3, u4, u5, u6⟩ := D1
    exact ⟨(e _ (hc_lt u1) (by omega)).trans u1, (e _ (hc_lt u2) (by omega)).trans u2, (e _ (hc_lt u3) (by omega)).trans u3, u4, u5, fun i e he => by cases he⟩
  refine rt_k (k := 1) (pc' := 39) (L' := [some (.ref a), some (.int (nI no)), some (.long (nmI w)), none, some (.ref v)]) (st' := [.int (nI 3), .ref h1.length, .ref h1.length, .ref a]) (h' := hB) (fun _ => rfl) ?_
  refine rt_c rfl rfl (dmd_mk (m := 3) (by decide) cN2) ?_
  rintro _ h2 ⟨rfl, g2, l2, D2⟩
  have cB2 := gr_at g2 cB (by omega)
  have g12 : gr (fun z => z = a) 3 9 h1 h2 := ⟨by omega, by omega, by have := gB.2.2.1; have := g2.2.2.1; omega, fun k hk hn => (g2.2.2.2 k (by omega) (by omega)).trans (gB.2.2.2 k hk hn)⟩
  rw [lB] at D2
  refine rt_pf rfl cB2 ⟨rfl, (show 4 < 7 by decide), rfl⟩ ?_
  refine rt_nm (fun h_59 e_60 => ?_)
  have g_61 : gr (fun z => z = a) 0 (0) h2 h_59 := by rw [e_60]; exact gr_mo (gr_tr (gr_rf (h := h2)) (gr_fr (fr_set (e' := .inr (9, [.int (nI no), .long (nmI w), .ref v, .ref h.length, .ref h1.length, .null, .int (nI 0)])) cB2 (by rfl) (by first | decide | simp)))) (fun _ q => q) (by first | exact Nat.le_refl _ | omega) (by first | exact Nat.le_refl _ | (simp only [ab_z]; omega))
  have n_62 : h_59.length = h2.length := by rw [e_60]; simp
  have c_63 : h_59[a]? = some (.inr (9, [.int (nI no), .long (nmI w), .ref v, .ref h.length, .ref h1.length, .null, .int (nI 0)])) := by rw [e_60]; exact hs_self cB2
  refine rt_k (k := 1) (pc' := 46) (L' := [some (.ref a), some (.int (nI no)), some (.long (nmI w)), none, some (.ref v)]) (st' := [.ref a]) (h' := h_59) (fun _ => rfl) ?_
  have lC0 : h_59.length = h2.length := by omega
  refine rt_k (k := 1) (pc' := 48) (L' := [some (.ref a), some (.int (nI no)), some (.long (nmI w)), none, some (.ref v)]) (st' := [.int (nI 12), .ref a]) (h' := h_59) (fun _ => rfl) ?_
  refine rt_k (k := 1) (pc' := 50) (L' := [some (.ref a), some (.int (nI no)), some (.long (nmI w)), none, some (.ref v)]) (st' := [.ref h_59.length, .ref a]) (h' := (h_59 ++ [.inl (1, 12, .inr (.inl (fun _ => 0)))])) (fun _ => rfl) ?_
  refine rt_nm (fun h_64 e_65 => ?_)
  have g_66 : gr (fun z => z = a) 1 (12) h2 h_64 := by rw [e_65]; exact gr_mo (gr_tr g_61 (gr_app (.inl (1, 12, .inr (.inl (fun _ => 0)))))) (fun _ q => q) (by first | exact Nat.le_refl _ | omega) (by first | exact Nat.le_refl _ | (simp only [ab_z]; omega))
  have n_67 : h_64.length = h_59.length + 1 := by rw [e_65]; simp
  have c_68 : h_64[a]? = some (.inr (9, [.int (nI no), .long (nmI w), .ref v, .ref h.length, .ref h1.length, .null, .int (nI 0)])) := by rw [e_65]; exact ha_old _ c_63
  have c_69 : h_64[h_59.length]? = some (.inl (1, 12, .inr (.inl (fun _ => 0)))) := by rw [e_65]; exact ha_new
  refine rt_pf rfl c_68 ⟨rfl, (show 5 < 7 by decide), rfl⟩ ?_
  refine rt_nm (fun h_70 e_71 => ?_)
  have g_72 : gr (fun z => z = a) 1 (12) h2 h_70 := by rw [e_71]; exact gr_mo (gr_tr g_66 (gr_fr (fr_set (e' := .inr (9, [.int (nI no), .long (nmI w), .ref v, .ref h.length, .ref h1.length, .ref h_59.length, .int (nI 0)])) c_68 (by rfl) (by first | decide | simp)))) (fun _ q => q) (by first | exact Nat.le_refl _ | omega) (by first | exact Nat.le_refl _ | (simp only [ab_z]; omega))
  have n_73 : h_70.length = h_64.length := by rw [e_71]; simp
  have c_74 : h_70[a]? = some (.inr (9, [.int (nI no), .long (nmI w), .ref v, .ref h.length, .ref h1.length, .ref h_59.length, .int (nI 0)])) := by rw [e_71]; exact hs_self c_68
  have c_75 : h_70[h_59.length]? = some (.inl (1, 12, .inr (.inl (fun _ => 0)))) := by rw [e_71]; exact hs_ne c_69 (hc_ne c_68 c_69 (by intro q; cases q))
  have g23 := g_72
  have cF := c_74
  have cP := c_75
  rw [lC0] at cF cP
  have eq1 : h1.length = h.length + 3 := by omega
  have eq2 : h2.length = h.length + 6 := by omega
  have gall := gr_tr (gr_tr g01 g12) g23
  have V' : zV h_70 v u := by
    obtain ⟨k, g, k1, k2, k3⟩ := V
    exact ⟨k, g, ⟨k1.1, gr_at gall k1.2 (fun q => by have t := k1.2; rw [q, ca] at t; cases t)⟩, ⟨k2.1, gr_at gall k2.2 (fun q => by have t := k2.2; rw [q, ca] at t; cases t)⟩, k3⟩
  refine rt_r (v := none) rfl rfl ⟨rfl, gr_mo gall (fun _ q => q) (by omega) (by omega), ⟨_, _, dd1 _ (fun k hk hn => (g23.2.2.2 k (by omega) hn).trans (g12.2.2.2 k hk hn))⟩, ⟨fun _ => 0, fun _ => none, ?_⟩, ?_, ⟨fun _ => 0, ?_, fun i w hw => by cases hw⟩, Nat.zero_le _, V'⟩
  · rw [eq1] at D2
    obtain ⟨u1, u2, u3, u4, u5, u6⟩ := D2
    exact ⟨(g23.2.2.2 _ (by omega) (by omega)).trans u1, (g23.2.2.2 _ (by omega) (by omega)).trans u2, (g23.2.2.2 _ (by omega) (by omega)).trans u3, u4, u5, fun i e he => by cases he⟩
  · rw [eq1, eq2] at cF; exact cF
  · rw [eq2] at cP; exact cP
/-- a path as three longs, in a row of its own -/
def pA (h : List va_E) (a : Nat) (w : kW) : Prop := ∃ f : Nat → Int64, h[a]? = some (.inl (1, 3, .inr (.inl f))) ∧ ∀ j, j < 3 → f j = ptI w j
theorem rel_path {a v nd n1 g1 bk n2 g2 ps pa : Nat} {r : kL} {w : kW} (C : lMk h a v nd n1 g1 bk n2 g2 ps r) (P : pA h pa w) (hne : a ≠ ps ∧ nd ≠ ps ∧ n1 ≠ ps ∧ g1 ≠ ps ∧ bk ≠ ps ∧ n2 ≠ ps ∧ g2 ≠ ps) : rt_ X d 53 0 [some (.ref a), some (.ref pa)] [] h (fun x h' => ((lOw r).length = 4 ∧ x = some (.int 0) ∧ h' = h) ∨ ((lOw r).length < 4 ∧ x = some (.int 1) ∧ fr_ (fun z => z = a ∨ z = ps) h h' ∧ lMk h' a v nd n1 g1 bk n2 g2 ps (lNo r, lNm r, lVe r, lNe r, lBr r, lOw r ++ [w]))) := by
  obtain ⟨⟨N1, G1, a1, a2, a3, a4, a5, a6⟩, ⟨N2, G2, b1, b2, b3, b4, b5, b6⟩, c, ⟨pf, e1, e2⟩, e3, V⟩ := id C
  obtain ⟨fp, p1, p2⟩ := P
  have hpp : pa ≠ ps := fun q => by rw [q, e1] at p1; cases p1
  refine rt_k (k := 3) (pc' := 5) (L' := [some (.ref a), some (.ref pa)]) (st' := [.ref a]) (h' := h) (fun _ => rfl) ?_
  refine rt_gf rfl c rfl rfl ?_
  refine rt_k (k := 1) (pc' := 9) (L' := [some (.ref a), some (.ref pa)]) (st' := [.int (nI 4), .int (nI ((lOw r).length))]) (h' := h) (fun _ => rfl) ?_
  refine rt_ine rfl (by omega) (by decide) (fun z => ?_) (fun z => ?_)
  rotate_left
  ·
    refine rt_k (k := 1) (pc' := 13) (L' := [some (.ref a), some (.ref pa)]) (st' := [.int (nI 0)]) (h' := h) (fun _ => rfl) ?_
    exact rt_r (v := some (.int (nI 0))) rfl rfl (Or.inl ⟨z, rfl, rfl⟩)
  have hlt : (lOw r).length < 4 := by omega
  refine rt_k (k := 3) (pc' := 17) (L' := [some (.ref a), some (.ref pa)]) (st' := [.ref a, .int (nI 0), .ref pa]) (h' := h) (fun _ => rfl) ?_
  refine rt_gf rfl c rfl rfl ?_
  refine rt_k (k := 1) (pc' := 21) (L' := [some (.ref a), some (.ref pa)]) (st' := [.ref a, .ref ps, .int (nI 0), .ref pa]) (h' := h) (fun _ => rfl) ?_
  refine rt_gf rfl c rfl rfl ?_
  refine rt_k (k := 1) (pc' := 25) (L' := [some (.ref a), some (.ref pa)]) (st' := [.int (nI 3), .int (nI ((lOw r).length)), .ref ps, .int (nI 0), .ref pa]) (h' := h) (fun _ => rfl) ?_
  refine rt_mul rfl ?_
  refine rt_k (k := 1) (pc' := 27) (L' := [some (.ref a), some (.ref pa)]) (st' := [.int (nI 3), .int (nI (((lOw r).length) * 3)), .ref ps, .int (nI 0), .ref pa]) (h' := h) (fun _ => rfl) ?_
  refine rt_acL rfl p1 e1 hpp rfl rfl (by omega) (by omega) ⟨by decide, by decide⟩ (by decide) ?_
  have f1 : fr_ (fun z => z = a ∨ z = ps) h (h.set ps (.inl (1, 12, .inr (.inl (va_cpy fp pf 0 ((lOw r).length * 3) 3))))) := fr_set e1 (by rfl) (Or.inr rfl)
  have k1 := hs_self (e' := .inl (1, 12, .inr (.inl (va_cpy fp pf 0 ((lOw r).length * 3) 3)))) e1
  have k2 := hs_ne (a := ps) (e' := .inl (1, 12, .inr (.inl (va_cpy fp pf 0 ((lOw r).length * 3) 3)))) c hne.1.symm
  refine rt_nm (fun h1 eh => ?_)
  rw [← eh] at f1 k1 k2
  refine rt_k (k := 2) (pc' := 32) (L' := [some (.ref a), some (.ref pa)]) (st' := [.ref a, .ref a]) (h' := h1) (fun _ => rfl) ?_
  refine rt_gf rfl k2 rfl rfl ?_
  refine rt_k (k := 1) (pc' := 36) (L' := [some (.ref a), some (.ref pa)]) (st' := [.int (nI 1), .int (nI ((lOw r).length)), .ref a]) (h' := h1) (fun _ => rfl) ?_
  refine rt_add rfl ?_
  refine rt_pf rfl k2 ⟨rfl, (show 6 < 7 by decide), rfl⟩ ?_
  refine rt_nm (fun h_76 e_77 => ?_)
  have f_78 : fr_ (fun z => z = a ∨ z = ps) h1 h_76 := by rw [e_77]; exact fr_set (e' := .inr (9, [.int (nI (lNo r)), .long (nmI (lNm r)), .ref v, .ref nd, .ref bk, .ref ps, .int (nI (((lOw r).length) + 1))])) k2 (by rfl) (by first | decide | simp)
  have n_79 : h_76.length = h1.length := by rw [e_77]; simp
  have c_80 : h_76[a]? = some (.inr (9, [.int (nI (lNo r)), .long (nmI (lNm r)), .ref v, .ref nd, .ref bk, .ref ps, .int (nI (((lOw r).length) + 1))])) := by rw [e_77]; exact hs_self k2
  have c_81 : h_76[ps]? = some (.inl (1, 12, .inr (.inl (va_cpy fp pf 0 ((lOw r).length * 3) 3)))) := by rw [e_77]; exact hs_ne k1 hne.1
  refine rt_k (k := 1) (pc' := 41) (L' := [some (.ref a), some (.ref pa)]) (st' := [.int (nI 1)]) (h' := h_76) (fun _ => rfl) ?_
  have F := fr_tr f1 f_78
  have Y : ∀ k x, h[k]? = some x → okR x → h_76[k]? = some x := fun k x hx ok => fr_at F (fun q => by
    rcases q with q | q
    · rw [q, c] at hx; cases hx; simp [okR] at ok
    · rw [q, e1] at hx; cases hx; simp [okR] at ok) hx
  have Ye : ey_ h h_76 := fun k x ok q => ⟨q.1, Y k x q.2 ok⟩
  have el : (lOw r ++ [w]).length = (lOw r).length + 1 := by rw [List.length_append]; rfl
  have nn : ∀ k x, h[k]? = some x → k ≠ ps → (∀ fs, x ≠ .inr (9, fs)) → h_76[k]? = some x := fun k x hx h1 h2 => fr_at F (fun q => by
    rcases q with q | q
    · rw [q, c] at hx; cases hx; exact h2 _ rfl
    · exact h1 q) hx
  refine rt_r (v := some (.int (nI 1))) rfl rfl (Or.inr ⟨hlt, rfl, F, ⟨N1, G1, nn _ _ a1 hne.2.1 (fun fs q => by cases q), nn _ _ a2 hne.2.2.1 (fun fs q => by cases q), nn _ _ a3 hne.2.2.2.1 (fun fs q => by cases q), a4, a5, a6.ey Ye⟩, ⟨N2, G2, nn _ _ b1 hne.2.2.2.2.1 (fun fs q => by cases q), nn _ _ b2 hne.2.2.2.2.2.1 (fun fs q => by cases q), nn _ _ b3 hne.2.2.2.2.2.2 (fun fs q => by cases q), b4, b5, b6.ey Ye⟩, ?_, ⟨_, c_81, fun i w' hw' j hj => ?_⟩, ?_, V.ey Ye⟩)
  · show h_76[a]? = some (.inr (9, [.int (nI (lNo r)), .long (nmI (lNm r)), .ref v, .ref nd, .ref bk, .ref ps, .int (nI (lOw r ++ [w]).length)]))
    rw [el]; exact c_80
  · unfold va_cpy
    rcases gt_snoc hw' with q | ⟨q1, q2⟩
    · have := gt_lt q
      rw [if_neg (by omega)]
      exact e2 i w' q j hj
    · subst q1; subst q2
      rw [if_pos ⟨by omega, by omega⟩, show 0 + ((lOw r).length * 3 + j - (lOw r).length * 3) = j by omega]
      exact p2 j hj
  · show (lOw r ++ [w]).length ≤ 4
    omega
theorem rd_pt1 (C : rC h T f b p) (k : (∀ i, f ≤ i → i < b → (mkb (T.getD i 0) || decide (T.getD i 0 = 46 ∨ T.getD i 0 = 47)) = true) → ∀ x y, rt_ X (d + 2) 52 78 [some (.ref 3), x, y] [] h Q) (kb : (∃ i, f ≤ i ∧ i < b ∧ ¬ (mkb (T.getD i 0) || decide (T.getD i 0 = 46 ∨ T.getD i 0 = 47)) = true) → Q (some .null) h) (i : Nat) (hi : f ≤ i ∧ i ≤ b) (H : ∀ j, f ≤ j → j < i → (mkb (T.getD j 0) || decide (T.getD j 0 = 46 ∨ T.getD j 0 = 47)) = true) (y : Option Value) : rt_ X (d + 2) 52 34 [some (.ref 3), some (.int (nI i)), y] [] h Q := by
  obtain ⟨P, c, h1, h2, h3⟩ := id C
  have hT := P.2.2.1
  have p1 := P.1
  refine rt_k (k := 2) (pc' := 36) (L' := [some (.ref 3), some (.int (nI i)), y]) (st' := [.ref 3, .int (nI i)]) (h' := h) (fun _ => rfl) ?_
  refine rt_gf rfl c rfl rfl ?_
  refine rt_ige rfl (by omega) (by omega) (fun z => ?_) (fun z => ?_)
  ·
    exact k (fun j a e => H j a (by omega)) _ _
  have b1 := tp_lt P i
  have nxt : (mkb (T.getD i 0) || decide (T.getD i 0 = 46 ∨ T.getD i 0 = 47)) = true → rt_ X (d + 2) 52 72 [some (.ref 3), some (.int (nI i)), some (.int (nI (T.getD i 0)))] [] h Q := fun w => by
    refine rt_inc (c := 1) rfl rfl ?_
    refine rt_k (k := 1) (pc' := 34) (L' := [some (.ref 3), some (.int (nI (i + 1))), some (.int (nI (T.getD i 0)))]) (st' := []) (h' := h) (fun _ => rfl) ?_
    exact rd_pt1 C k kb (i + 1) ⟨by omega, by omega⟩ (fun j a e => by
      by_cases q : j = i
      · subst q; exact w
      · exact H j a (by omega)) _
  refine rt_k (k := 1) (pc' := 43) (L' := [some (.ref 3), some (.int (nI i)), y]) (st' := [.ref 3]) (h' := h) (fun _ => rfl) ?_
  refine rt_gf rfl c rfl rfl ?_
  refine rt_k (k := 1) (pc' := 47) (L' := [some (.ref 3), some (.int (nI i)), y]) (st' := [.int (nI i), .ref 1]) (h' := h) (fun _ => rfl) ?_
  refine rt_cvE rfl (by decide) p1 rfl rfl rfl rfl (tp_at3 P (i := i) (by omega)) ?_
  refine rt_k (k := 2) (pc' := 52) (L' := [some (.ref 3), some (.int (nI i)), some (.int (nI (T.getD i 0)))]) (st' := [.int (nI (T.getD i 0))]) (h' := h) (fun _ => by cases y <;> rfl) ?_
  refine rt_cE rfl rfl (rd_mkb b1) ?_
  refine rt_pn rfl (fun z1 => ?_) (fun z1 => ?_)
  ·
    exact nxt (by rw [z1]; rfl)
  refine rt_k (k := 2) (pc' := 61) (L' := [some (.ref 3), some (.int (nI i)), some (.int (nI (T.getD i 0)))]) (st' := [.int (nI 46), .int (nI (T.getD i 0))]) (h' := h) (fun _ => rfl) ?_
  refine rt_ieq rfl (by omega) (by decide) (fun z2 => ?_) (fun z2 => ?_)
  ·
    exact nxt (by rw [Bool.or_eq_true]; exact Or.inr (decide_eq_true (Or.inl z2)))
  refine rt_k (k := 2) (pc' := 67) (L' := [some (.ref 3), some (.int (nI i)), some (.int (nI (T.getD i 0)))]) (st' := [.int (nI 47), .int (nI (T.getD i 0))]) (h' := h) (fun _ => rfl) ?_
  refine rt_ieq rfl (by omega) (by decide) (fun z3 => ?_) (fun z3 => ?_)
  ·
    exact nxt (by rw [Bool.or_eq_true]; exact Or.inr (decide_eq_true (Or.inr z3)))
  refine rt_k (k := 1) (pc' := 71) (L' := [some (.ref 3), some (.int (nI i)), some (.int (nI (T.getD i 0)))]) (st' := [.null]) (h' := h) (fun _ => rfl) ?_
  exact rt_r (v := some (.null)) rfl rfl (kb ⟨i, hi.1, z, fun w => by rw [Bool.or_eq_true] at w; rcases w with w | w; exact z1 w; rcases of_decide_eq_true w with w | w; exact z2 w; exact z3 w⟩)
termination_by b - i
end LM

