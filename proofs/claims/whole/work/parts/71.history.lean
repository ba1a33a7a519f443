/-! HISTORY, 2: the current one, one more, one taken back. -/
abbrev hA : Nat → Prop := fun z => z = 14 ∨ z = 15 ∨ z = 16 ∨ z = 17
theorem hA_zz : ∀ k, zz k → ¬ hA k := by intro k q; unfold zz at q; unfold hA; omega
theorem hS_hA : ∀ k, hS k → hA k := by intro k q; unfold hS at q; unfold hA; omega
theorem zG.c {h : List va_E} {a : Nat} {g : kG} (C : zG h a g) : ∃ od ci, h[a]? = some (.inr (7, [.ref od, .ref ci, .int (nI g.length)])) := by
  obtain ⟨od, ci, F, S, c, -⟩ := C
  exact ⟨od, ci, c.2⟩
section HI2
variable {X : Nat × (Nat → Int32)} {d : Nat} {h : List va_E} {Q : Option Value → List va_E → Prop} {n made : Nat} {F : Nat → Option Nat} {st : kS}
theorem his_top (C : hC h n made F st) (h1 : 1 ≤ n) (h4 : n ≤ 4) {a : Nat} (fa : F (n - 1) = some a) : rt_ X d 93 0 [some (.ref 14)] [] h (fun v h' => v = some (.ref a) ∧ h' = h) := by
  obtain ⟨SN, SC, c1, c2, c3, c4, -⟩ := C
  refine rt_k (k := 1) (pc' := 1) (L' := [some (.ref 14)]) (st' := [.ref 14]) (h' := h) (fun _ => rfl) ?_
  refine rt_gf rfl c1 rfl rfl ?_
  refine rt_k (k := 1) (pc' := 5) (L' := [some (.ref 14)]) (st' := [.ref 14, .ref 15]) (h' := h) (fun _ => rfl) ?_
  refine rt_gf rfl c1 rfl rfl ?_
  refine rt_k (k := 1) (pc' := 9) (L' := [some (.ref 14)]) (st' := [.int (nI 1), .int (nI n), .ref 15]) (h' := h) (fun _ => rfl) ?_
  refine rt_sub rfl (by omega) ?_
  refine rt_aalN rfl c2 rfl (by omega) (by decide) fa ?_
  exact rt_r (v := some (.ref a)) rfl rfl (⟨rfl, rfl⟩)
theorem his_earlier (C : hC h n made F st) (h4 : n ≤ 4) : rt_ X d 109 0 [some (.ref 14)] [] h (fun v h' => v = some (.int (tB (1 < n))) ∧ h' = h) := by
  obtain ⟨SN, SC, c1, c2, c3, c4, -⟩ := C
  refine rt_k (k := 1) (pc' := 1) (L' := [some (.ref 14)]) (st' := [.ref 14]) (h' := h) (fun _ => rfl) ?_
  refine rt_gf rfl c1 rfl rfl ?_
  refine rt_k (k := 1) (pc' := 5) (L' := [some (.ref 14)]) (st' := [.int (nI 1), .int (nI n)]) (h' := h) (fun _ => rfl) ?_
  refine rt_ile rfl (by omega) (by decide) (fun z => ?_) (fun z => ?_)
  ·
    refine rt_k (k := 1) (pc' := 13) (L' := [some (.ref 14)]) (st' := [.int (nI 0)]) (h' := h) (fun _ => rfl) ?_
    exact rt_r (v := some (.int (nI 0))) rfl rfl (⟨ret0 (by omega), rfl⟩)
  refine rt_k (k := 2) (pc' := 13) (L' := [some (.ref 14)]) (st' := [.int (nI 1)]) (h' := h) (fun _ => rfl) ?_
  exact rt_r (v := some (.int (nI 1))) rfl rfl (⟨ret1 z, rfl⟩)
theorem his_put1 {b : Nat} {t : kG} {K : List kG} (hK : K.length = 4) (i : Nat) (h : List va_E) (G : Nat → Option Nat) (C : hC h 4 made G st) (B : zG h b t) (HK : kHf h F K) (hi : 1 ≤ i ∧ i ≤ 4) (g1 : ∀ j, j + 1 < i → G j = F (j + 1)) (g2 : ∀ j, i ≤ j + 1 → G j = F j) (k : ∀ h' G', fr_ hA h h' → hC h' 4 made G' st → (∀ j, j < 3 → G' j = F (j + 1)) → rt_ X d 104 44 [some (.ref 14), some (.ref b), some (.int (nI 4))] [] h' Q) : rt_ X d 104 19 [some (.ref 14), some (.ref b), some (.int (nI i))] [] h Q := by
  obtain ⟨SN, SC, c1, c2, c3, c4, c5, c6⟩ := id C
  refine rt_k (k := 2) (pc' := 21) (L' := [some (.ref 14), some (.ref b), some (.int (nI i))]) (st' := [.int (nI 4), .int (nI i)]) (h' := h) (fun _ => rfl) ?_
  refine rt_ige rfl (by omega) (by decide) (fun z => ?_) (fun z => ?_)
  ·
    have e : i = 4 := by omega
    subst e
    exact k h G fr_rf C (fun j hj => g1 j (by omega))
  obtain ⟨g, hg⟩ := gt_ex (l := K) (i := i) (by omega)
  obtain ⟨a, fa, za⟩ := HK i g hg
  obtain ⟨od, ci, ca⟩ := za.c
  have ga : G i = some a := by rw [g2 _ (by omega)]; exact fa
  refine rt_k (k := 1) (pc' := 25) (L' := [some (.ref 14), some (.ref b), some (.int (nI i))]) (st' := [.ref 14]) (h' := h) (fun _ => rfl) ?_
  refine rt_gf rfl c1 rfl rfl ?_
  refine rt_k (k := 2) (pc' := 30) (L' := [some (.ref 14), some (.ref b), some (.int (nI i))]) (st' := [.int (nI 1), .int (nI i), .ref 15]) (h' := h) (fun _ => rfl) ?_
  refine rt_sub rfl (by omega) ?_
  refine rt_k (k := 1) (pc' := 32) (L' := [some (.ref 14), some (.ref b), some (.int (nI i))]) (st' := [.ref 14, .int (nI (i - 1)), .ref 15]) (h' := h) (fun _ => rfl) ?_
  refine rt_gf rfl c1 rfl rfl ?_
  refine rt_k (k := 1) (pc' := 36) (L' := [some (.ref 14), some (.ref b), some (.int (nI i))]) (st' := [.int (nI i), .ref 15, .int (nI (i - 1)), .ref 15]) (h' := h) (fun _ => rfl) ?_
  refine rt_aalN rfl c2 rfl (by omega) (by decide) ga ?_
  refine rt_aasN rfl c2 ca ⟨rfl, rfl⟩ (by omega) (by decide) ?_
  have f_1 : fr_ (hA) h (h.set 15 (.inl (7, 4, .inr (.inr (.inr (.inr (va_up G (i - 1) (some a)))))))) := fr_set (e' := .inl (7, 4, .inr (.inr (.inr (.inr (va_up G (i - 1) (some a))))))) c2 (by rfl) (by first | decide | simp)
  have x_2 : ex_ h (h.set 15 (.inl (7, 4, .inr (.inr (.inr (.inr (va_up G (i - 1) (some a)))))))) := ex_set (e := .inl (7, 4, .inr (.inr (.inr (.inr (va_up G (i - 1) (some a))))))) (by unfold zz; omega)
  have c_3 := hs_ne (a := 15) (e' := .inl (7, 4, .inr (.inr (.inr (.inr (va_up G (i - 1) (some a))))))) c1 (by decide)
  have c_4 := hs_ne (a := 15) (e' := .inl (7, 4, .inr (.inr (.inr (.inr (va_up G (i - 1) (some a))))))) c3 (by decide)
  have c_5 := hs_ne (a := 15) (e' := .inl (7, 4, .inr (.inr (.inr (.inr (va_up G (i - 1) (some a))))))) c4 (by decide)
  have c_6 := hs_ne (a := 15) (e' := .inl (7, 4, .inr (.inr (.inr (.inr (va_up G (i - 1) (some a))))))) ca (fun q => by subst q; rw [c2] at ca; cases ca)
  have c_7 := hs_self (e' := .inl (7, 4, .inr (.inr (.inr (.inr (va_up G (i - 1) (some a))))))) c2
  refine rt_inc (c := 1) rfl rfl ?_
  refine rt_k (k := 1) (pc' := 19) (L' := [some (.ref 14), some (.ref b), some (.int (nI (i + 1)))]) (st' := []) (h' := (h.set 15 (.inl (7, 4, .inr (.inr (.inr (.inr (va_up G (i - 1) (some a))))))))) (fun _ => rfl) ?_
  refine his_put1 hK (i + 1) _ (va_up G (i - 1) (some a)) ⟨SN, SC, c_3, c_7, c_4, c_5, c5, c6⟩ (B.ex x_2) (HK.ex x_2) ⟨by omega, by omega⟩ (fun j hj => ?_) (fun j hj => ?_) (fun h' G' f1 => k h' G' (fr_tr f_1 f1))
  · by_cases q : j = i - 1
    · subst q; rw [va_up_self, show i - 1 + 1 = i by omega]; exact fa.symm
    · rw [va_up_ne _ _ q]; exact g1 j (by omega)
  · rw [va_up_ne _ _ (by omega)]; exact g2 j (by omega)
termination_by 4 - i
/-- what is kept with one more -/
def kPut (K : List kG) (t : kG) : List kG := (if K.length = 4 then K.drop 1 else K) ++ [t]
theorem his_put2 {b : Nat} {t : kG} {K : List kG} (C : hC h K.length made F st) (hl : K.length < 4) (hm : made < 600) (HK : kHf h F K) (B : zG h b t) (x : Option Value) : rt_ X d 104 54 [some (.ref 14), some (.ref b), x] [] h (fun v h' => v = none ∧ fr_ hA h h' ∧ cH h' (K ++ [t]) (made + 1) st) := by
  obtain ⟨SN, SC, c1, c2, c3, c4, c5, c6⟩ := id C
  obtain ⟨od, ci, cb⟩ := B.c
  refine rt_n rfl ?_
  refine rt_gf rfl c1 rfl rfl ?_
  refine rt_n rfl ?_
  refine rt_gf rfl c1 rfl rfl ?_
  refine rt_n rfl ?_
  refine rt_aasN rfl c2 cb ⟨rfl, rfl⟩ hl (by decide) ?_
  have f0 : fr_ hA h (h.set 15 (.inl (7, 4, .inr (.inr (.inr (.inr (va_up F K.length (some b)))))))) := fr_set c2 (by rfl) (by decide)
  have e0 : ex_ h (h.set 15 (.inl (7, 4, .inr (.inr (.inr (.inr (va_up F K.length (some b)))))))) := ex_set (by unfold zz; omega)
  have d1 := hs_ne (a := 15) (e' := .inl (7, 4, .inr (.inr (.inr (.inr (va_up F K.length (some b))))))) c1 (by decide)
  have d2 := hs_self (e' := .inl (7, 4, .inr (.inr (.inr (.inr (va_up F K.length (some b))))))) c2
  have d3 := hs_ne (a := 15) (e' := .inl (7, 4, .inr (.inr (.inr (.inr (va_up F K.length (some b))))))) c3 (by decide)
  have d4 := hs_ne (a := 15) (e' := .inl (7, 4, .inr (.inr (.inr (.inr (va_up F K.length (some b))))))) c4 (by decide)
  generalize hh : h.set 15 (.inl (7, 4, .inr (.inr (.inr (.inr (va_up F K.length (some b))))))) = h1 at f0 e0 d1 d2 d3 d4
  refine rt_n rfl ?_
  refine rt_n rfl ?_
  refine rt_gf rfl d1 rfl rfl ?_
  refine rt_n rfl ?_
  refine rt_add rfl ?_
  refine rt_pf rfl d1 ⟨rfl, (show 1 < 6 by decide), rfl⟩ ?_
  refine rt_n rfl ?_
  refine rt_n rfl ?_
  refine rt_gf rfl (hs_self d1) rfl rfl ?_
  refine rt_n rfl ?_
  refine rt_add rfl ?_
  refine rt_pf rfl (hs_self d1) ⟨rfl, (show 2 < 6 by decide), rfl⟩ ?_
  refine rt_r (v := none) rfl rfl ⟨rfl, ?_, va_up F K.length (some b), ⟨SN, SC, ?_, hs_ne (hs_ne d2 (by decide)) (by decide), hs_ne (hs_ne d3 (by decide)) (by decide), hs_ne (hs_ne d4 (by decide)) (by decide), c5, c6⟩, ?_, ?_, hm, ?_⟩
  · exact fr_tr (fr_tr f0 (fr_set d1 (by rfl) (by decide))) (fr_set (hs_self d1) (by rfl) (by decide))
  · rw [List.length_append]; exact hs_self (hs_self d1)
  · rw [List.length_append]; simp
  · rw [List.length_append]; simp; omega
  · have ex := ex_tr e0 (ex_tr (ex_set (a := 14) (e := .inr (6, [.ref 15, .int (nI (K.length + 1)), .int (nI made), .ref 16, .ref 17, .int (nI st.length)])) (by unfold zz; omega)) (ex_set (a := 14) (e := .inr (6, [.ref 15, .int (nI (K.length + 1)), .int (nI (made + 1)), .ref 16, .ref 17, .int (nI st.length)])) (by unfold zz; omega)))
    intro i g hg
    rcases gt_snoc hg with q | ⟨q1, q2⟩
    · have := gt_lt q
      obtain ⟨a, fa, za⟩ := HK i g q
      exact ⟨a, by rw [va_up_ne _ _ (by omega)]; exact fa, za.ex ex⟩
    · subst q1; subst q2
      exact ⟨b, va_up_self _ _ _, B.ex ex⟩
theorem his_put {b : Nat} {t g : kG} {K : List kG} (C : cH h K made st) (hm : made < 600) (B : zG h b t) (hg : K[K.length - 1]? = some g) : rt_ X (d + 2) 104 0 [some (.ref 14), some (.ref b), none] [] h (fun v h' => v = none ∧ fr_ hA h h' ∧ cH h' (kPut K t) (made + 1) (wkS g t)) := by
  obtain ⟨F, C, k1, k4, -, HK⟩ := C
  obtain ⟨a, fa, za⟩ := HK _ g hg
  obtain ⟨SN0, SC0, c0, -⟩ := id C
  refine rt_k (k := 2) (pc' := 2) (L' := [some (.ref 14), some (.ref b), none]) (st' := [.ref 14, .ref 14]) (h' := h) (fun _ => rfl) ?_
  refine rt_cvE rfl (by decide) c0 rfl rfl rfl rfl (his_top C k1 k4 fa) ?_
  refine rt_k (k := 1) (pc' := 6) (L' := [some (.ref 14), some (.ref b), none]) (st' := [.ref b, .ref a, .ref 14]) (h' := h) (fun _ => rfl) ?_
  refine rt_cv rfl (by decide) c0 rfl rfl rfl rfl (his_steps C za B) ?_
  rintro _ h1 ⟨rfl, f1, C1⟩
  have B1 := B.ex (fr_ex f1 hS_zz)
  have HK1 := HK.ex (fr_ex f1 hS_zz)
  obtain ⟨SN, SC, c1, c2, c3, c4, c5, c6⟩ := id C1
  refine rt_k (k := 1) (pc' := 10) (L' := [some (.ref 14), some (.ref b), none]) (st' := [.ref 14]) (h' := h1) (fun _ => rfl) ?_
  refine rt_gf rfl c1 rfl rfl ?_
  refine rt_k (k := 1) (pc' := 14) (L' := [some (.ref 14), some (.ref b), none]) (st' := [.int (nI 4), .int (nI K.length)]) (h' := h1) (fun _ => rfl) ?_
  refine rt_ine rfl (by omega) (by decide) (fun z => ?_) (fun z => ?_)
  ·
    refine rt_w (his_put2 C1 (by omega) hm HK1 B1 _) ?_
    rintro v h2 ⟨r1, r2, r3⟩
    refine ⟨r1, fr_tr (fr_mo f1 hS_hA) r2, ?_⟩
    unfold kPut
    rw [if_neg z]
    exact r3
  refine rt_k (k := 2) (pc' := 19) (L' := [some (.ref 14), some (.ref b), some (.int (nI 1))]) (st' := []) (h' := h1) (fun _ => rfl) ?_
  rw [z] at C1
  refine his_put1 (F := F) z 1 h1 F C1 B1 HK1 ⟨by omega, by omega⟩ (fun j hj => by omega) (fun j hj => rfl) (fun h2 G f2 C2 g2 => ?_)
  obtain ⟨SN', SC', e1, e2, e3, e4, e5, e6⟩ := id C2
  refine rt_k (k := 2) (pc' := 46) (L' := [some (.ref 14), some (.ref b), some (.int (nI 4))]) (st' := [.ref 14, .ref 14]) (h' := h2) (fun _ => rfl) ?_
  refine rt_gf rfl e1 rfl rfl ?_
  refine rt_k (k := 1) (pc' := 50) (L' := [some (.ref 14), some (.ref b), some (.int (nI 4))]) (st' := [.int (nI 1), .int (nI 4), .ref 14]) (h' := h2) (fun _ => rfl) ?_
  refine rt_sub rfl (by omega) ?_
  refine rt_pf rfl e1 ⟨rfl, (show 1 < 6 by decide), rfl⟩ ?_
  have f_8 : fr_ (hA) h2 (h2.set 14 (.inr (6, [.ref 15, .int (nI 3), .int (nI made), .ref 16, .ref 17, .int (nI ((wkS g t).length))]))) := fr_set (e' := .inr (6, [.ref 15, .int (nI 3), .int (nI made), .ref 16, .ref 17, .int (nI ((wkS g t).length))])) e1 (by rfl) (by first | decide | simp)
  have x_9 : ex_ h2 (h2.set 14 (.inr (6, [.ref 15, .int (nI 3), .int (nI made), .ref 16, .ref 17, .int (nI ((wkS g t).length))]))) := ex_set (e := .inr (6, [.ref 15, .int (nI 3), .int (nI made), .ref 16, .ref 17, .int (nI ((wkS g t).length))])) (by unfold zz; omega)
  have c_10 := hs_ne (a := 14) (e' := .inr (6, [.ref 15, .int (nI 3), .int (nI made), .ref 16, .ref 17, .int (nI ((wkS g t).length))])) e2 (by decide)
  have c_11 := hs_ne (a := 14) (e' := .inr (6, [.ref 15, .int (nI 3), .int (nI made), .ref 16, .ref 17, .int (nI ((wkS g t).length))])) e3 (by decide)
  have c_12 := hs_ne (a := 14) (e' := .inr (6, [.ref 15, .int (nI 3), .int (nI made), .ref 16, .ref 17, .int (nI ((wkS g t).length))])) e4 (by decide)
  have c_13 := hs_self (e' := .inr (6, [.ref 15, .int (nI 3), .int (nI made), .ref 16, .ref 17, .int (nI ((wkS g t).length))])) e1
  have HK2 := (HK1.ex (fr_ex f2 hA_zz)).ex x_9
  have B2 := (B1.ex (fr_ex f2 hA_zz)).ex x_9
  have l3 : (K.drop 1).length = 3 := by rw [List.length_drop]; omega
  have C3 : hC (h2.set 14 (.inr (6, [.ref 15, .int (nI 3), .int (nI made), .ref 16, .ref 17, .int (nI ((wkS g t).length))]))) (K.drop 1).length made G (wkS g t) := ⟨SN', SC', by rw [l3]; exact c_13, c_10, c_11, c_12, e5, e6⟩
  have HK3 : kHf (h2.set 14 (.inr (6, [.ref 15, .int (nI 3), .int (nI made), .ref 16, .ref 17, .int (nI ((wkS g t).length))]))) G (K.drop 1) := fun i g' hg' => by
    have hi := gt_lt hg'
    rw [List.getElem?_drop] at hg'
    obtain ⟨a', fa', za'⟩ := HK2 _ g' hg'
    exact ⟨a', by rw [g2 i (by omega), show i + 1 = 1 + i by omega]; exact fa', za'⟩
  refine rt_w (his_put2 C3 (by omega) hm HK3 B2 _) ?_
  rintro v h4 ⟨r1, r2, r3⟩
  refine ⟨r1, fr_tr (fr_tr (fr_tr (fr_mo f1 hS_hA) f2) f_8) r2, ?_⟩
  unfold kPut
  rw [if_pos z]
  exact r3
theorem his_back {g t : kG} {K : List kG} (C : cH h K made st) (h2 : 1 < K.length) (hg : K[K.length - 1]? = some g) (ht : K[K.length - 2]? = some t) : rt_ X (d + 2) 110 0 [some (.ref 14)] [] h (fun v h' => v = none ∧ fr_ hA h h' ∧ cH h' (K.take (K.length - 1)) made (wkS g t)) := by
  obtain ⟨F, C, k1, k4, hm, HK⟩ := C
  obtain ⟨a, fa, za⟩ := HK _ g hg
  obtain ⟨b, fb, zb⟩ := HK _ t ht
  obtain ⟨SN0, SC0, c0, c01, c02, c03, -⟩ := id C
  refine rt_k (k := 1) (pc' := 1) (L' := [some (.ref 14)]) (st' := [.ref 14]) (h' := h) (fun _ => rfl) ?_
  refine rt_cvE rfl (by decide) c0 rfl rfl rfl rfl (his_earlier C k4) ?_
  refine rt_pe rfl (fun z => absurd z (by omega)) (fun _ => ?_)
  refine rt_k (k := 2) (pc' := 9) (L' := [some (.ref 14)]) (st' := [.ref 14, .ref 14]) (h' := h) (fun _ => rfl) ?_
  refine rt_cvE rfl (by decide) c0 rfl rfl rfl rfl (his_top C k1 k4 fa) ?_
  refine rt_k (k := 1) (pc' := 13) (L' := [some (.ref 14)]) (st' := [.ref 14, .ref a, .ref 14]) (h' := h) (fun _ => rfl) ?_
  refine rt_gf rfl c0 rfl rfl ?_
  refine rt_k (k := 1) (pc' := 17) (L' := [some (.ref 14)]) (st' := [.ref 14, .ref 15, .ref a, .ref 14]) (h' := h) (fun _ => rfl) ?_
  refine rt_gf rfl c0 rfl rfl ?_
  refine rt_k (k := 1) (pc' := 21) (L' := [some (.ref 14)]) (st' := [.int (nI 2), .int (nI K.length), .ref 15, .ref a, .ref 14]) (h' := h) (fun _ => rfl) ?_
  refine rt_sub rfl (by omega) ?_
  refine rt_aalN rfl c01 rfl (by omega) (by decide) fb ?_
  refine rt_cv rfl (by decide) c0 rfl rfl rfl rfl (his_steps C za zb) ?_
  rintro _ h1 ⟨rfl, f1, C1⟩
  have HK1 := HK.ex (fr_ex f1 hS_zz)
  obtain ⟨SN, SC, c1, c2, c3, c4, c5, c6⟩ := id C1
  refine rt_k (k := 2) (pc' := 28) (L' := [some (.ref 14)]) (st' := [.ref 14, .ref 14]) (h' := h1) (fun _ => rfl) ?_
  refine rt_gf rfl c1 rfl rfl ?_
  refine rt_k (k := 1) (pc' := 32) (L' := [some (.ref 14)]) (st' := [.int (nI 1), .int (nI K.length), .ref 14]) (h' := h1) (fun _ => rfl) ?_
  refine rt_sub rfl (by omega) ?_
  refine rt_pf rfl c1 ⟨rfl, (show 1 < 6 by decide), rfl⟩ ?_
  have f_14 : fr_ (hA) h1 (h1.set 14 (.inr (6, [.ref 15, .int (nI (K.length - 1)), .int (nI made), .ref 16, .ref 17, .int (nI ((wkS g t).length))]))) := fr_set (e' := .inr (6, [.ref 15, .int (nI (K.length - 1)), .int (nI made), .ref 16, .ref 17, .int (nI ((wkS g t).length))])) c1 (by rfl) (by first | decide | simp)
  have x_15 : ex_ h1 (h1.set 14 (.inr (6, [.ref 15, .int (nI (K.length - 1)), .int (nI made), .ref 16, .ref 17, .int (nI ((wkS g t).length))]))) := ex_set (e := .inr (6, [.ref 15, .int (nI (K.length - 1)), .int (nI made), .ref 16, .ref 17, .int (nI ((wkS g t).length))])) (by unfold zz; omega)
  have c_16 := hs_ne (a := 14) (e' := .inr (6, [.ref 15, .int (nI (K.length - 1)), .int (nI made), .ref 16, .ref 17, .int (nI ((wkS g t).length))])) c2 (by decide)
  have c_17 := hs_ne (a := 14) (e' := .inr (6, [.ref 15, .int (nI (K.length - 1)), .int (nI made), .ref 16, .ref 17, .int (nI ((wkS g t).length))])) c3 (by decide)
  have c_18 := hs_ne (a := 14) (e' := .inr (6, [.ref 15, .int (nI (K.length - 1)), .int (nI made), .ref 16, .ref 17, .int (nI ((wkS g t).length))])) c4 (by decide)
  have c_19 := hs_self (e' := .inr (6, [.ref 15, .int (nI (K.length - 1)), .int (nI made), .ref 16, .ref 17, .int (nI ((wkS g t).length))])) c1
  refine rt_k (k := 1) (pc' := 37) (L' := [some (.ref 14)]) (st' := [.ref 14]) (h' := (h1.set 14 (.inr (6, [.ref 15, .int (nI (K.length - 1)), .int (nI made), .ref 16, .ref 17, .int (nI ((wkS g t).length))])))) (fun _ => rfl) ?_
  refine rt_gf rfl c_19 rfl rfl ?_
  refine rt_k (k := 1) (pc' := 41) (L' := [some (.ref 14)]) (st' := [.ref 14, .ref 15]) (h' := (h1.set 14 (.inr (6, [.ref 15, .int (nI (K.length - 1)), .int (nI made), .ref 16, .ref 17, .int (nI ((wkS g t).length))])))) (fun _ => rfl) ?_
  refine rt_gf rfl c_19 rfl rfl ?_
  refine rt_k (k := 1) (pc' := 45) (L' := [some (.ref 14)]) (st' := [.null, .int (nI (K.length - 1)), .ref 15]) (h' := (h1.set 14 (.inr (6, [.ref 15, .int (nI (K.length - 1)), .int (nI made), .ref 16, .ref 17, .int (nI ((wkS g t).length))])))) (fun _ => rfl) ?_
  refine rt_aaO rfl c_16 rfl (by omega) (by decide) ?_
  have f_20 : fr_ (hA) h1 ((h1.set 14 (.inr (6, [.ref 15, .int (nI (K.length - 1)), .int (nI made), .ref 16, .ref 17, .int (nI ((wkS g t).length))]))).set 15 (.inl (7, 4, .inr (.inr (.inr (.inr (va_up F (K.length - 1) none))))))) := fr_tr f_14 (fr_set (e' := .inl (7, 4, .inr (.inr (.inr (.inr (va_up F (K.length - 1) none)))))) c_16 (by rfl) (by first | decide | simp))
  have x_21 : ex_ h1 ((h1.set 14 (.inr (6, [.ref 15, .int (nI (K.length - 1)), .int (nI made), .ref 16, .ref 17, .int (nI ((wkS g t).length))]))).set 15 (.inl (7, 4, .inr (.inr (.inr (.inr (va_up F (K.length - 1) none))))))) := ex_tr x_15 (ex_set (e := .inl (7, 4, .inr (.inr (.inr (.inr (va_up F (K.length - 1) none)))))) (by unfold zz; omega))
  have c_22 := hs_ne (a := 15) (e' := .inl (7, 4, .inr (.inr (.inr (.inr (va_up F (K.length - 1) none)))))) c_19 (by decide)
  have c_23 := hs_ne (a := 15) (e' := .inl (7, 4, .inr (.inr (.inr (.inr (va_up F (K.length - 1) none)))))) c_17 (by decide)
  have c_24 := hs_ne (a := 15) (e' := .inl (7, 4, .inr (.inr (.inr (.inr (va_up F (K.length - 1) none)))))) c_18 (by decide)
  have c_25 := hs_self (e' := .inl (7, 4, .inr (.inr (.inr (.inr (va_up F (K.length - 1) none)))))) c_16
  have lt : (K.take (K.length - 1)).length = K.length - 1 := by rw [List.length_take]; omega
  refine rt_r (v := none) rfl rfl ⟨rfl, fr_tr (fr_mo f1 hS_hA) f_20, va_up F (K.length - 1) none, ⟨SN, SC, by rw [lt]; exact c_22, c_25, c_23, c_24, c5, c6⟩, by omega, by omega, hm, ?_⟩
  intro i g' hg'
  have hi := gt_lt hg'
  rw [List.getElem?_take_of_lt (by omega)] at hg'
  obtain ⟨a', fa', za'⟩ := HK1 i g' hg'
  exact ⟨a', by rw [va_up_ne _ _ (by omega)]; exact fa', za'.ex x_21⟩
end HI2

