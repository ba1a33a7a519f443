/-! TESTS made and read; NAMES read. -/
section TR
variable {X : Nat × (Nat → Int32)} {d : Nat} {h : List va_E} {Q : Option Value → List va_E → Prop} {T : List Nat} {f b p : Nat} {ws : List kW}
theorem rd_na2 (C : rC h T f b p) (hb8 : b ≤ f + 8) (k : (∀ i, f ≤ i → i < b → 97 ≤ T.getD i 0 ∧ T.getD i 0 ≤ 122) → ∀ x, rt_ X (d + 6) 25 83 [some (.ref 3), x, none] [] h Q) (kb : (∃ i, f ≤ i ∧ i < b ∧ ¬ (97 ≤ T.getD i 0 ∧ T.getD i 0 ≤ 122)) → ∀ x, rt_ X (d + 6) 25 75 [some (.ref 3), x, none] [] h Q) (i : Nat) (hi : f ≤ i ∧ i ≤ b) (H : ∀ j, f ≤ j → j < i → 97 ≤ T.getD j 0 ∧ T.getD j 0 ≤ 122) : rt_ X (d + 6) 25 41 [some (.ref 3), some (.int (nI i)), none] [] h Q := by
  obtain ⟨P, c, h1, h2, h3⟩ := id C
  have hT := P.2.2.1
  have p1 := P.1
  refine rt_k (k := 2) (pc' := 43) (L' := [some (.ref 3), some (.int (nI i)), none]) (st' := [.ref 3, .int (nI i)]) (h' := h) (fun _ => rfl) ?_
  refine rt_gf rfl c rfl rfl ?_
  refine rt_ige rfl (by omega) (by omega) (fun z => ?_) (fun z => ?_)
  ·
    exact k (fun j a e => H j a (by omega)) _
  have b1 := tp_lt P i
  refine rt_k (k := 1) (pc' := 50) (L' := [some (.ref 3), some (.int (nI i)), none]) (st' := [.ref 3]) (h' := h) (fun _ => rfl) ?_
  refine rt_gf rfl c rfl rfl ?_
  refine rt_k (k := 1) (pc' := 54) (L' := [some (.ref 3), some (.int (nI i)), none]) (st' := [.int (nI i), .ref 1]) (h' := h) (fun _ => rfl) ?_
  refine rt_cvE rfl (by decide) p1 rfl rfl rfl rfl (tp_at3 P (i := i) (by omega)) ?_
  refine rt_k (k := 1) (pc' := 59) (L' := [some (.ref 3), some (.int (nI i)), none]) (st' := [.int (nI 97), .int (nI (T.getD i 0))]) (h' := h) (fun _ => rfl) ?_
  refine rt_ilt rfl (by omega) (by decide) (fun z1 => ?_) (fun z1 => ?_)
  ·
    exact kb ⟨i, hi.1, z, by omega⟩ _
  refine rt_k (k := 1) (pc' := 63) (L' := [some (.ref 3), some (.int (nI i)), none]) (st' := [.ref 3]) (h' := h) (fun _ => rfl) ?_
  refine rt_gf rfl c rfl rfl ?_
  refine rt_k (k := 1) (pc' := 67) (L' := [some (.ref 3), some (.int (nI i)), none]) (st' := [.int (nI i), .ref 1]) (h' := h) (fun _ => rfl) ?_
  refine rt_cvE rfl (by decide) p1 rfl rfl rfl rfl (tp_at3 P (i := i) (by omega)) ?_
  refine rt_k (k := 1) (pc' := 72) (L' := [some (.ref 3), some (.int (nI i)), none]) (st' := [.int (nI 122), .int (nI (T.getD i 0))]) (h' := h) (fun _ => rfl) ?_
  refine rt_ile rfl (by omega) (by decide) (fun z2 => ?_) (fun z2 => ?_)
  rotate_left
  ·
    exact kb ⟨i, hi.1, z, by omega⟩ _
  refine rt_inc (c := 1) rfl rfl ?_
  refine rt_k (k := 1) (pc' := 41) (L' := [some (.ref 3), some (.int (nI (i + 1))), none]) (st' := []) (h' := h) (fun _ => rfl) ?_
  exact rd_na2 C hb8 k kb (i + 1) ⟨by omega, by omega⟩ (fun j a e => by
    by_cases q : j = i
    · subst q; exact ⟨z1, z2⟩
    · exact H j a (by omega))
termination_by b - i
theorem isNm_iff {f b : Nat} (hb : b ≤ T.length) : isNm (sl T f b) = true ↔ (1 ≤ b - f ∧ b - f ≤ 8) ∧ (∀ i, f ≤ i → i < b → 97 ≤ T.getD i 0 ∧ T.getD i 0 ≤ 122) ∧ ¬ isCl (sl T f b) = true := by
  unfold isNm isCl
  rw [sl_len hb]
  simp only [Bool.and_eq_true, decide_eq_true_eq, Bool.not_eq_true', decide_eq_false_iff_not, List.all_eq_true, and_assoc]
  refine and_congr Iff.rfl (and_congr Iff.rfl (and_congr ⟨fun w i a e => ?_, fun w c hc => ?_⟩ Iff.rfl))
  · have g := sl_get (T := T) (p := f) (q := b) (i := i - f) (by omega)
    rw [show f + (i - f) = i by omega, List.getElem?_eq_getElem (show i < T.length by omega)] at g
    rw [List.getD_eq_getElem?_getD, List.getElem?_eq_getElem (show i < T.length by omega)]
    exact w _ (List.mem_of_getElem? g)
  · obtain ⟨i, hi⟩ := gt_mem hc
    have hl := gt_lt hi
    rw [sl_len hb] at hl
    rw [sl_get (by omega)] at hi
    have := w (f + i) (by omega) (by omega)
    rw [List.getD_eq_getElem?_getD, hi] at this
    exact this
/-- what is next is a word of which P holds -/
def nxW (ws : List kW) (P : kW → Prop) : Prop := ∃ w ws', ws = w :: ws' ∧ P w
theorem rd_name (C : rC h T f b p) (W : rW T f b ws) : rt_ X (d + 6) 25 0 [some (.ref 3), none, none] [] h (fun v h' => fr_ r3 h h' ∧ ((∃ w ws', ws = w :: ws' ∧ isNm w = true ∧ v = some (.long (nmI w)) ∧ rG h' T ws') ∨ (¬ nxW ws (fun w => isNm w = true) ∧ v = some (.long 0) ∧ rB h' T))) := by
  obtain ⟨P, c, h1, h2, h3⟩ := id C
  have hT := P.2.2.1
  have nm := isNm_iff (T := T) (f := f) (b := b) h2
  have bad : ¬ isNm (sl T f b) = true → ∀ x, rt_ X (d + 6) 25 34 [some (.ref 3), x, none] [] h (fun v h' => fr_ r3 h h' ∧ ((∃ w ws', ws = w :: ws' ∧ isNm w = true ∧ v = some (.long (nmI w)) ∧ rG h' T ws') ∨ (¬ nxW ws (fun w => isNm w = true) ∧ v = some (.long 0) ∧ rB h' T))) := fun hb x => by
    refine rt_n rfl ?_
    refine rt_r (v := some (.long 0)) rfl rfl ⟨fr_rf, Or.inr ⟨?_, rfl, f, b, p, C⟩⟩
    rintro ⟨w, ws', e, hw⟩
    rcases W with ⟨q, -⟩ | ⟨ws'', q, -⟩
    · rw [q] at e; cases e
    · rw [q] at e; cases e; exact hb hw
  refine rt_k (k := 1) (pc' := 1) (L' := [some (.ref 3), none, none]) (st' := [.ref 3]) (h' := h) (fun _ => rfl) ?_
  refine rt_gf rfl c rfl rfl ?_
  refine rt_k (k := 1) (pc' := 5) (L' := [some (.ref 3), none, none]) (st' := [.ref 3, .int (nI b)]) (h' := h) (fun _ => rfl) ?_
  refine rt_gf rfl c rfl rfl ?_
  refine rt_sub rfl (by omega) ?_
  refine rt_k (k := 1) (pc' := 10) (L' := [some (.ref 3), none, none]) (st' := [.int (nI 1), .int (nI (b - f))]) (h' := h) (fun _ => rfl) ?_
  refine rt_ilt rfl (by omega) (by decide) (fun z1 => ?_) (fun z1 => ?_)
  ·
    exact bad (fun w => by have := (nm.mp w).1; omega) _
  refine rt_k (k := 1) (pc' := 14) (L' := [some (.ref 3), none, none]) (st' := [.ref 3]) (h' := h) (fun _ => rfl) ?_
  refine rt_gf rfl c rfl rfl ?_
  refine rt_k (k := 1) (pc' := 18) (L' := [some (.ref 3), none, none]) (st' := [.ref 3, .int (nI b)]) (h' := h) (fun _ => rfl) ?_
  refine rt_gf rfl c rfl rfl ?_
  refine rt_sub rfl (by omega) ?_
  refine rt_k (k := 1) (pc' := 24) (L' := [some (.ref 3), none, none]) (st' := [.int (nI 8), .int (nI (b - f))]) (h' := h) (fun _ => rfl) ?_
  refine rt_igt rfl (by omega) (by decide) (fun z2 => ?_) (fun z2 => ?_)
  ·
    exact bad (fun w => by have := (nm.mp w).1; omega) _
  refine rt_k (k := 1) (pc' := 28) (L' := [some (.ref 3), none, none]) (st' := [.ref 3]) (h' := h) (fun _ => rfl) ?_
  refine rt_cvE rfl (by decide) c rfl rfl rfl rfl (rd_cl C) ?_
  refine rt_pe rfl (fun z3 => ?_) (fun z3 => ?_)
  rotate_left
  ·
    exact bad (fun w => (nm.mp w).2.2 z3) _
  refine rt_k (k := 1) (pc' := 37) (L' := [some (.ref 3), none, none]) (st' := [.ref 3]) (h' := h) (fun _ => rfl) ?_
  refine rt_gf rfl c rfl rfl ?_
  refine rt_k (k := 1) (pc' := 41) (L' := [some (.ref 3), some (.int (nI f)), none]) (st' := []) (h' := h) (fun _ => rfl) ?_
  refine rd_na2 C (by omega) (fun hall x => ?_) (fun hex x => ?_) f ⟨Nat.le_refl _, h1⟩ (fun j a e => by omega)
  · have hn : isNm (sl T f b) = true := nm.mpr ⟨⟨z1, z2⟩, hall, z3⟩
    rcases W with ⟨-, q, -⟩ | ⟨ws', q, q2, q3, q4, -⟩
    · omega
    · rw [q]
      refine rt_k (k := 2) (pc' := 85) (L' := [some (.ref 3), x, none]) (st' := [.ref 3, .ref 3]) (h' := h) (fun _ => rfl) ?_
      refine rt_gf rfl c rfl rfl ?_
      refine rt_k (k := 1) (pc' := 89) (L' := [some (.ref 3), x, none]) (st' := [.ref 3, .int (nI f), .ref 3]) (h' := h) (fun _ => rfl) ?_
      refine rt_gf rfl c rfl rfl ?_
      refine rt_cvE rfl (by decide) c rfl rfl rfl rfl (rd_packed C (s := f) (t := b) h2 (by omega)) ?_
      refine rt_k (k := 2) (pc' := 97) (L' := [some (.ref 3), some (.long (nmI (sl T f b))), none]) (st' := [.ref 3]) (h' := h) (fun _ => by cases x <;> rfl) ?_
      refine rt_cv rfl (by decide) c rfl rfl rfl rfl (rd_nx C) ?_
      rintro _ h' ⟨rfl, f1, f', b', C1, W1⟩
      rw [← q4] at W1
      refine rt_k (k := 1) (pc' := 101) (L' := [some (.ref 3), some (.long (nmI (sl T f b))), none]) (st' := [.long (nmI (sl T f b))]) (h' := h') (fun _ => rfl) ?_
      exact rt_r (v := some (.long (nmI (sl T f b)))) rfl rfl (⟨f1, Or.inl ⟨_, ws', rfl, hn, rfl, f', b', p, C1, W1⟩⟩)
  · refine rt_n rfl ?_
    refine rt_r (v := some (.long 0)) rfl rfl ⟨fr_rf, Or.inr ⟨?_, rfl, f, b, p, C⟩⟩
    rintro ⟨w, ws', e, hw⟩
    rcases W with ⟨q, -⟩ | ⟨ws'', q, -⟩
    · rw [q] at e; cases e
    · rw [q] at e; cases e
      obtain ⟨i, a, e, g⟩ := hex
      exact g ((nm.mp hw).2.1 i a e)
theorem tst_nn {a : Nat} {b1 b2 : Bool} (ca : h[a]? = some (.inr (11, [.null, .int (nI 0), .null, .int (nI 0)]))) : rt_ X d 46 0 [some (.ref a), some (.null), some (.int (bI b1)), some (.null), some (.int (bI b2))] [] h (fun v h' => v = none ∧ fr_ (fun z => z = a) h h' ∧ h'[a]? = some (.inr (11, [.null, .int (bI b1), .null, .int (bI b2)]))) := by
  refine rt_k (k := 4) (pc' := 6) (L' := [some (.ref a), some (.null), some (.int (bI b1)), some (.null), some (.int (bI b2))]) (st' := [.null, .ref a]) (h' := h) (fun _ => rfl) ?_
  refine rt_pf rfl ca ⟨rfl, (show 0 < 4 by decide), rfl⟩ ?_
  refine rt_nm (fun h_1 e_2 => ?_)
  have f_3 : fr_ (fun z => z = a) h h_1 := by rw [e_2]; exact fr_set (e' := .inr (11, [.null, .int (nI 0), .null, .int (nI 0)])) ca (by rfl) (by first | decide | simp)
  have n_4 : h_1.length = h.length := by rw [e_2]; simp
  have c_5 : h_1[a]? = some (.inr (11, [.null, .int (nI 0), .null, .int (nI 0)])) := by rw [e_2]; exact hs_self ca
  refine rt_k (k := 2) (pc' := 11) (L' := [some (.ref a), some (.null), some (.int (bI b1)), some (.null), some (.int (bI b2))]) (st' := [.int (bI b1), .ref a]) (h' := h_1) (fun _ => rfl) ?_
  refine rt_pf rfl c_5 ⟨rfl, (show 1 < 4 by decide), (by cases b1 <;> rfl)⟩ ?_
  refine rt_nm (fun h_6 e_7 => ?_)
  have f_8 : fr_ (fun z => z = a) h h_6 := by rw [e_7]; exact fr_tr f_3 (fr_set (e' := .inr (11, [.null, .int (bI b1), .null, .int (nI 0)])) c_5 (by rfl) (by first | decide | simp))
  have n_9 : h_6.length = h_1.length := by rw [e_7]; simp
  have c_10 : h_6[a]? = some (.inr (11, [.null, .int (bI b1), .null, .int (nI 0)])) := by rw [e_7]; exact hs_self c_5
  refine rt_k (k := 2) (pc' := 16) (L' := [some (.ref a), some (.null), some (.int (bI b1)), some (.null), some (.int (bI b2))]) (st' := [.null, .ref a]) (h' := h_6) (fun _ => rfl) ?_
  refine rt_pf rfl c_10 ⟨rfl, (show 2 < 4 by decide), rfl⟩ ?_
  refine rt_nm (fun h_11 e_12 => ?_)
  have f_13 : fr_ (fun z => z = a) h h_11 := by rw [e_12]; exact fr_tr f_8 (fr_set (e' := .inr (11, [.null, .int (bI b1), .null, .int (nI 0)])) c_10 (by rfl) (by first | decide | simp))
  have n_14 : h_11.length = h_6.length := by rw [e_12]; simp
  have c_15 : h_11[a]? = some (.inr (11, [.null, .int (bI b1), .null, .int (nI 0)])) := by rw [e_12]; exact hs_self c_10
  refine rt_k (k := 2) (pc' := 22) (L' := [some (.ref a), some (.null), some (.int (bI b1)), some (.null), some (.int (bI b2))]) (st' := [.int (bI b2), .ref a]) (h' := h_11) (fun _ => rfl) ?_
  refine rt_pf rfl c_15 ⟨rfl, (show 3 < 4 by decide), (by cases b2 <;> rfl)⟩ ?_
  refine rt_nm (fun h_16 e_17 => ?_)
  have f_18 : fr_ (fun z => z = a) h h_16 := by rw [e_17]; exact fr_tr f_13 (fr_set (e' := .inr (11, [.null, .int (bI b1), .null, .int (bI b2)])) c_15 (by rfl) (by first | decide | simp))
  have n_19 : h_16.length = h_11.length := by rw [e_17]; simp
  have c_20 : h_16[a]? = some (.inr (11, [.null, .int (bI b1), .null, .int (bI b2)])) := by rw [e_17]; exact hs_self c_15
  exact rt_r (v := none) rfl rfl ⟨rfl, f_18, c_20⟩
theorem tst_nr {a : Nat} {ha : Nat} {b1 b2 : Bool} (ca : h[a]? = some (.inr (11, [.null, .int (nI 0), .null, .int (nI 0)]))) : rt_ X d 46 0 [some (.ref a), some (.null), some (.int (bI b1)), some (.ref ha), some (.int (bI b2))] [] h (fun v h' => v = none ∧ fr_ (fun z => z = a) h h' ∧ h'[a]? = some (.inr (11, [.null, .int (bI b1), .ref ha, .int (bI b2)]))) := by
  refine rt_k (k := 4) (pc' := 6) (L' := [some (.ref a), some (.null), some (.int (bI b1)), some (.ref ha), some (.int (bI b2))]) (st' := [.null, .ref a]) (h' := h) (fun _ => rfl) ?_
  refine rt_pf rfl ca ⟨rfl, (show 0 < 4 by decide), rfl⟩ ?_
  refine rt_nm (fun h_21 e_22 => ?_)
  have f_23 : fr_ (fun z => z = a) h h_21 := by rw [e_22]; exact fr_set (e' := .inr (11, [.null, .int (nI 0), .null, .int (nI 0)])) ca (by rfl) (by first | decide | simp)
  have n_24 : h_21.length = h.length := by rw [e_22]; simp
  have c_25 : h_21[a]? = some (.inr (11, [.null, .int (nI 0), .null, .int (nI 0)])) := by rw [e_22]; exact hs_self ca
  refine rt_k (k := 2) (pc' := 11) (L' := [some (.ref a), some (.null), some (.int (bI b1)), some (.ref ha), some (.int (bI b2))]) (st' := [.int (bI b1), .ref a]) (h' := h_21) (fun _ => rfl) ?_
  refine rt_pf rfl c_25 ⟨rfl, (show 1 < 4 by decide), (by cases b1 <;> rfl)⟩ ?_
  refine rt_nm (fun h_26 e_27 => ?_)
  have f_28 : fr_ (fun z => z = a) h h_26 := by rw [e_27]; exact fr_tr f_23 (fr_set (e' := .inr (11, [.null, .int (bI b1), .null, .int (nI 0)])) c_25 (by rfl) (by first | decide | simp))
  have n_29 : h_26.length = h_21.length := by rw [e_27]; simp
  have c_30 : h_26[a]? = some (.inr (11, [.null, .int (bI b1), .null, .int (nI 0)])) := by rw [e_27]; exact hs_self c_25
  refine rt_k (k := 2) (pc' := 16) (L' := [some (.ref a), some (.null), some (.int (bI b1)), some (.ref ha), some (.int (bI b2))]) (st' := [.ref ha, .ref a]) (h' := h_26) (fun _ => rfl) ?_
  refine rt_pf rfl c_30 ⟨rfl, (show 2 < 4 by decide), rfl⟩ ?_
  refine rt_nm (fun h_31 e_32 => ?_)
  have f_33 : fr_ (fun z => z = a) h h_31 := by rw [e_32]; exact fr_tr f_28 (fr_set (e' := .inr (11, [.null, .int (bI b1), .ref ha, .int (nI 0)])) c_30 (by rfl) (by first | decide | simp))
  have n_34 : h_31.length = h_26.length := by rw [e_32]; simp
  have c_35 : h_31[a]? = some (.inr (11, [.null, .int (bI b1), .ref ha, .int (nI 0)])) := by rw [e_32]; exact hs_self c_30
  refine rt_k (k := 2) (pc' := 22) (L' := [some (.ref a), some (.null), some (.int (bI b1)), some (.ref ha), some (.int (bI b2))]) (st' := [.int (bI b2), .ref a]) (h' := h_31) (fun _ => rfl) ?_
  refine rt_pf rfl c_35 ⟨rfl, (show 3 < 4 by decide), (by cases b2 <;> rfl)⟩ ?_
  refine rt_nm (fun h_36 e_37 => ?_)
  have f_38 : fr_ (fun z => z = a) h h_36 := by rw [e_37]; exact fr_tr f_33 (fr_set (e' := .inr (11, [.null, .int (bI b1), .ref ha, .int (bI b2)])) c_35 (by rfl) (by first | decide | simp))
  have n_39 : h_36.length = h_31.length := by rw [e_37]; simp
  have c_40 : h_36[a]? = some (.inr (11, [.null, .int (bI b1), .ref ha, .int (bI b2)])) := by rw [e_37]; exact hs_self c_35
  exact rt_r (v := none) rfl rfl ⟨rfl, f_38, c_40⟩
theorem tst_rn {a : Nat} {la : Nat} {b1 b2 : Bool} (ca : h[a]? = some (.inr (11, [.null, .int (nI 0), .null, .int (nI 0)]))) : rt_ X d 46 0 [some (.ref a), some (.ref la), some (.int (bI b1)), some (.null), some (.int (bI b2))] [] h (fun v h' => v = none ∧ fr_ (fun z => z = a) h h' ∧ h'[a]? = some (.inr (11, [.ref la, .int (bI b1), .null, .int (bI b2)]))) := by
  refine rt_k (k := 4) (pc' := 6) (L' := [some (.ref a), some (.ref la), some (.int (bI b1)), some (.null), some (.int (bI b2))]) (st' := [.ref la, .ref a]) (h' := h) (fun _ => rfl) ?_
  refine rt_pf rfl ca ⟨rfl, (show 0 < 4 by decide), rfl⟩ ?_
  refine rt_nm (fun h_41 e_42 => ?_)
  have f_43 : fr_ (fun z => z = a) h h_41 := by rw [e_42]; exact fr_set (e' := .inr (11, [.ref la, .int (nI 0), .null, .int (nI 0)])) ca (by rfl) (by first | decide | simp)
  have n_44 : h_41.length = h.length := by rw [e_42]; simp
  have c_45 : h_41[a]? = some (.inr (11, [.ref la, .int (nI 0), .null, .int (nI 0)])) := by rw [e_42]; exact hs_self ca
  refine rt_k (k := 2) (pc' := 11) (L' := [some (.ref a), some (.ref la), some (.int (bI b1)), some (.null), some (.int (bI b2))]) (st' := [.int (bI b1), .ref a]) (h' := h_41) (fun _ => rfl) ?_
  refine rt_pf rfl c_45 ⟨rfl, (show 1 < 4 by decide), (by cases b1 <;> rfl)⟩ ?_
  refine rt_nm (fun h_46 e_47 => ?_)
  have f_48 : fr_ (fun z => z = a) h h_46 := by rw [e_47]; exact fr_tr f_43 (fr_set (e' := .inr (11, [.ref la, .int (bI b1), .null, .int (nI 0)])) c_45 (by rfl) (by first | decide | simp))
  have n_49 : h_46.length = h_41.length := by rw [e_47]; simp
  have c_50 : h_46[a]? = some (.inr (11, [.ref la, .int (bI b1), .null, .int (nI 0)])) := by rw [e_47]; exact hs_self c_45
  refine rt_k (k := 2) (pc' := 16) (L' := [some (.ref a), some (.ref la), some (.int (bI b1)), some (.null), some (.int (bI b2))]) (st' := [.null, .ref a]) (h' := h_46) (fun _ => rfl) ?_
  refine rt_pf rfl c_50 ⟨rfl, (show 2 < 4 by decide), rfl⟩ ?_
  refine rt_nm (fun h_51 e_52 => ?_)
  have f_53 : fr_ (fun z => z = a) h h_51 := by rw [e_52]; exact fr_tr f_48 (fr_set (e' := .inr (11, [.ref la, .int (bI b1), .null, .int (nI 0)])) c_50 (by rfl) (by first | decide | simp))
  have n_54 : h_51.length = h_46.length := by rw [e_52]; simp
  have c_55 : h_51[a]? = some (.inr (11, [.ref la, .int (bI b1), .null, .int (nI 0)])) := by rw [e_52]; exact hs_self c_50
  refine rt_k (k := 2) (pc' := 22) (L' := [some (.ref a), some (.ref la), some (.int (bI b1)), some (.null), some (.int (bI b2))]) (st' := [.int (bI b2), .ref a]) (h' := h_51) (fun _ => rfl) ?_
  refine rt_pf rfl c_55 ⟨rfl, (show 3 < 4 by decide), (by cases b2 <;> rfl)⟩ ?_
  refine rt_nm (fun h_56 e_57 => ?_)
  have f_58 : fr_ (fun z => z = a) h h_56 := by rw [e_57]; exact fr_tr f_53 (fr_set (e' := .inr (11, [.ref la, .int (bI b1), .null, .int (bI b2)])) c_55 (by rfl) (by first | decide | simp))
  have n_59 : h_56.length = h_51.length := by rw [e_57]; simp
  have c_60 : h_56[a]? = some (.inr (11, [.ref la, .int (bI b1), .null, .int (bI b2)])) := by rw [e_57]; exact hs_self c_55
  exact rt_r (v := none) rfl rfl ⟨rfl, f_58, c_60⟩
theorem tst_rr {a : Nat} {la : Nat} {ha : Nat} {b1 b2 : Bool} (ca : h[a]? = some (.inr (11, [.null, .int (nI 0), .null, .int (nI 0)]))) : rt_ X d 46 0 [some (.ref a), some (.ref la), some (.int (bI b1)), some (.ref ha), some (.int (bI b2))] [] h (fun v h' => v = none ∧ fr_ (fun z => z = a) h h' ∧ h'[a]? = some (.inr (11, [.ref la, .int (bI b1), .ref ha, .int (bI b2)]))) := by
  refine rt_k (k := 4) (pc' := 6) (L' := [some (.ref a), some (.ref la), some (.int (bI b1)), some (.ref ha), some (.int (bI b2))]) (st' := [.ref la, .ref a]) (h' := h) (fun _ => rfl) ?_
  refine rt_pf rfl ca ⟨rfl, (show 0 < 4 by decide), rfl⟩ ?_
  refine rt_nm (fun h_61 e_62 => ?_)
  have f_63 : fr_ (fun z => z = a) h h_61 := by rw [e_62]; exact fr_set (e' := .inr (11, [.ref la, .int (nI 0), .null, .int (nI 0)])) ca (by rfl) (by first | decide | simp)
  have n_64 : h_61.length = h.length := by rw [e_62]; simp
  have c_65 : h_61[a]? = some (.inr (11, [.ref la, .int (nI 0), .null, .int (nI 0)])) := by rw [e_62]; exact hs_self ca
  refine rt_k (k := 2) (pc' := 11) (L' := [some (.ref a), some (.ref la), some (.int (bI b1)), some (.ref ha), some (.int (bI b2))]) (st' := [.int (bI b1), .ref a]) (h' := h_61) (fun _ => rfl) ?_
  refine rt_pf rfl c_65 ⟨rfl, (show 1 < 4 by decide), (by cases b1 <;> rfl)⟩ ?_
  refine rt_nm (fun h_66 e_67 => ?_)
  have f_68 : fr_ (fun z => z = a) h h_66 := by rw [e_67]; exact fr_tr f_63 (fr_set (e' := .inr (11, [.ref la, .int (bI b1), .null, .int (nI 0)])) c_65 (by rfl) (by first | decide | simp))
  have n_69 : h_66.length = h_61.length := by rw [e_67]; simp
  have c_70 : h_66[a]? = some (.inr (11, [.ref la, .int (bI b1), .null, .int (nI 0)])) := by rw [e_67]; exact hs_self c_65
  refine rt_k (k := 2) (pc' := 16) (L' := [some (.ref a), some (.ref la), some (.int (bI b1)), some (.ref ha), some (.int (bI b2))]) (st' := [.ref ha, .ref a]) (h' := h_66) (fun _ => rfl) ?_
  refine rt_pf rfl c_70 ⟨rfl, (show 2 < 4 by decide), rfl⟩ ?_
  refine rt_nm (fun h_71 e_72 => ?_)
  have f_73 : fr_ (fun z => z = a) h h_71 := by rw [e_72]; exact fr_tr f_68 (fr_set (e' := .inr (11, [.ref la, .int (bI b1), .ref ha, .int (nI 0)])) c_70 (by rfl) (by first | decide | simp))
  have n_74 : h_71.length = h_66.length := by rw [e_72]; simp
  have c_75 : h_71[a]? = some (.inr (11, [.ref la, .int (bI b1), .ref ha, .int (nI 0)])) := by rw [e_72]; exact hs_self c_70
  refine rt_k (k := 2) (pc' := 22) (L' := [some (.ref a), some (.ref la), some (.int (bI b1)), some (.ref ha), some (.int (bI b2))]) (st' := [.int (bI b2), .ref a]) (h' := h_71) (fun _ => rfl) ?_
  refine rt_pf rfl c_75 ⟨rfl, (show 3 < 4 by decide), (by cases b2 <;> rfl)⟩ ?_
  refine rt_nm (fun h_76 e_77 => ?_)
  have f_78 : fr_ (fun z => z = a) h h_76 := by rw [e_77]; exact fr_tr f_73 (fr_set (e' := .inr (11, [.ref la, .int (bI b1), .ref ha, .int (bI b2)])) c_75 (by rfl) (by first | decide | simp))
  have n_79 : h_76.length = h_71.length := by rw [e_77]; simp
  have c_80 : h_76[a]? = some (.inr (11, [.ref la, .int (bI b1), .ref ha, .int (bI b2)])) := by rw [e_77]; exact hs_self c_75
  exact rt_r (v := none) rfl rfl ⟨rfl, f_78, c_80⟩
def nB (u : kV) : Prop := u.1.1 < 1000000000 ∧ u.1.2.1 < 1000000000 ∧ u.1.2.2 < 1000000000
theorem lI_s1 (n : Nat) : lI n + 1 = lI (n + 1) := by rw [show (1 : Int64) = lI 1 from by decide, lI_add]
theorem lI_0 {n : Nat} (h : n < 9223372036854775808) : lI n = 0 ↔ n = 0 := by
  constructor
  · intro q
    have := congrArg Int64.toInt q
    unfold lI at this
    rw [Int64.toInt_ofNat_of_lt h, show (0 : Int64).toInt = 0 by decide] at this
    omega
  · intro q; subst q; rfl
def nvP (h : List va_E) (u : kV) (v : Option Value) (h' : List va_E) : Prop := ∃ a, v = some (.ref a) ∧ gr (fun _ => False) 2 8 h h' ∧ h.length ≤ a ∧ zV h' a u
theorem ver_fin {h h1 h2 : List va_E} {u : kV} (h39 : 39 ≤ h.length) (g1 : gr (fun _ => False) 1 1 h h1) (l1 : h1.length = h.length + 1) (g2 : gr (fun z => z = h.length) 1 7 h1 h2) (V : vM h2 h.length h1.length u) : gr (fun _ => False) 2 8 h h2 ∧ zV h2 h.length u := by
  refine ⟨⟨by have := g2.1; omega, by have := g2.2.1; omega, by have := g2.2.2.1; have := g1.2.2.1; omega, fun k hk _ => ?_⟩, V.z (by unfold zz; omega) (by unfold zz; omega)⟩
  rw [g2.2.2.2 k (by omega) (by omega)]
  exact g1.2.2.2 k hk id
theorem ver_min {a : Nat} {u : kV} (h39 : 39 ≤ h.length) (Z : zV h a u) : rt_ X (d + 1) 48 0 [some (.ref a)] [] h (nvP h (vMin u)) := by
  obtain ⟨k, g, ⟨-, c1⟩, ⟨-, c2⟩, c3⟩ := id Z
  refine rt_k (k := 1) (pc' := 3) (L' := [some (.ref a)]) (st' := [.ref h.length]) (h' := (h ++ [.inr (8, [.null])])) (fun _ => rfl) ?_
  refine rt_nm (fun h_81 e_82 => ?_)
  have g_83 : gr (fun _ => False) 1 (1) h h_81 := by rw [e_82]; exact gr_mo (gr_tr (gr_rf (h := h)) (gr_app (.inr (8, [.null])))) (fun _ q => q) (by first | exact Nat.le_refl _ | omega) (by first | exact Nat.le_refl _ | (simp only [ab_z]; omega))
  have n_84 : h_81.length = h.length + 1 := by rw [e_82]; simp
  have c_85 : h_81[a]? = some (.inr (8, [.ref k])) := by rw [e_82]; exact ha_old _ c1
  have c_86 : h_81[k]? = some (.inl (1, 7, .inr (.inl g))) := by rw [e_82]; exact ha_old _ c2
  have c_87 : h_81[h.length]? = some (.inr (8, [.null])) := by rw [e_82]; exact ha_new
  refine rt_k (k := 2) (pc' := 5) (L' := [some (.ref a)]) (st' := [.ref a, .ref h.length, .ref h.length]) (h' := h_81) (fun _ => rfl) ?_
  refine rt_gf rfl c_85 rfl rfl ?_
  refine rt_k (k := 1) (pc' := 9) (L' := [some (.ref a)]) (st' := [.int (nI 0), .ref k, .ref h.length, .ref h.length]) (h' := h_81) (fun _ => rfl) ?_
  refine rt_lalN rfl c_86 rfl (by omega) (by decide) (c3 0 (by decide)) ?_
  refine rt_k (k := 1) (pc' := 11) (L' := [some (.ref a)]) (st' := [.ref a, .long (lI u.1.1), .ref h.length, .ref h.length]) (h' := h_81) (fun _ => rfl) ?_
  refine rt_gf rfl c_85 rfl rfl ?_
  refine rt_k (k := 1) (pc' := 15) (L' := [some (.ref a)]) (st' := [.int (nI 1), .ref k, .long (lI u.1.1), .ref h.length, .ref h.length]) (h' := h_81) (fun _ => rfl) ?_
  refine rt_lalN rfl c_86 rfl (by omega) (by decide) (c3 1 (by decide)) ?_
  refine rt_k (k := 3) (pc' := 19) (L' := [some (.ref a)]) (st' := [.long 0, .long ((lI u.1.2.1) + 1), .long (lI u.1.1), .ref h.length, .ref h.length]) (h' := h_81) (fun _ => rfl) ?_
  have g1 := g_83
  have cn := c_87
  have l1 : h_81.length = h.length + 1 := by omega
  rw [lI_s1]
  have hv := ver_mk (X := X) (d := d) (x := u.1.1) (y := u.1.2.1 + 1) (z := 0) cn
  refine rt_c rfl rfl hv ?_
  rintro _ h2 ⟨rfl, g2, V2⟩
  obtain ⟨g3, z3⟩ := ver_fin h39 g1 l1 g2 V2
  exact rt_r (v := some (.ref h.length)) rfl rfl (⟨_, rfl, g3, Nat.le_refl _, z3⟩)
theorem ver_brk {a : Nat} {u : kV} (h39 : 39 ≤ h.length) (Z : zV h a u) (hu : nB u) : rt_ X (d + 2) 47 0 [some (.ref a)] [] h (nvP h (vBrk u)) := by
  obtain ⟨k, g, ⟨-, c1⟩, ⟨-, c2⟩, c3⟩ := id Z
  obtain ⟨u1, u2, u3⟩ := id hu
  refine rt_k (k := 1) (pc' := 1) (L' := [some (.ref a)]) (st' := [.ref a]) (h' := h) (fun _ => rfl) ?_
  refine rt_gf rfl c1 rfl rfl ?_
  refine rt_k (k := 1) (pc' := 5) (L' := [some (.ref a)]) (st' := [.int (nI 0), .ref k]) (h' := h) (fun _ => rfl) ?_
  refine rt_lalN rfl c2 rfl (by omega) (by decide) (c3 0 (by decide)) ?_
  refine rt_k (k := 2) (pc' := 8) (L' := [some (.ref a)]) (st' := [.int (lg_cmp (lI u.1.1) 0)]) (h' := h) (fun _ => rfl) ?_
  refine rt_le rfl (fun z1 => ?_) (fun z1 => ?_)
  ·
    have e1 := (lI_0 (by omega)).mp z1
    refine rt_k (k := 1) (pc' := 30) (L' := [some (.ref a)]) (st' := [.ref a]) (h' := h) (fun _ => rfl) ?_
    refine rt_gf rfl c1 rfl rfl ?_
    refine rt_k (k := 1) (pc' := 34) (L' := [some (.ref a)]) (st' := [.int (nI 1), .ref k]) (h' := h) (fun _ => rfl) ?_
    refine rt_lalN rfl c2 rfl (by omega) (by decide) (c3 1 (by decide)) ?_
    refine rt_k (k := 2) (pc' := 37) (L' := [some (.ref a)]) (st' := [.int (lg_cmp (lI u.1.2.1) 0)]) (h' := h) (fun _ => rfl) ?_
    refine rt_le rfl (fun z2 => ?_) (fun z2 => ?_)
    ·
      have e2 := (lI_0 (by omega)).mp z2
      refine rt_k (k := 1) (pc' := 50) (L' := [some (.ref a)]) (st' := [.ref h.length]) (h' := (h ++ [.inr (8, [.null])])) (fun _ => rfl) ?_
      refine rt_nm (fun h_88 e_89 => ?_)
      have g_90 : gr (fun _ => False) 1 (1) h h_88 := by rw [e_89]; exact gr_mo (gr_tr (gr_rf (h := h)) (gr_app (.inr (8, [.null])))) (fun _ q => q) (by first | exact Nat.le_refl _ | omega) (by first | exact Nat.le_refl _ | (simp only [ab_z]; omega))
      have n_91 : h_88.length = h.length + 1 := by rw [e_89]; simp
      have c_92 : h_88[a]? = some (.inr (8, [.ref k])) := by rw [e_89]; exact ha_old _ c1
      have c_93 : h_88[k]? = some (.inl (1, 7, .inr (.inl g))) := by rw [e_89]; exact ha_old _ c2
      have c_94 : h_88[h.length]? = some (.inr (8, [.null])) := by rw [e_89]; exact ha_new
      refine rt_k (k := 4) (pc' := 54) (L' := [some (.ref a)]) (st' := [.ref a, .long 0, .long 0, .ref h.length, .ref h.length]) (h' := h_88) (fun _ => rfl) ?_
      refine rt_gf rfl c_92 rfl rfl ?_
      refine rt_k (k := 1) (pc' := 58) (L' := [some (.ref a)]) (st' := [.int (nI 2), .ref k, .long 0, .long 0, .ref h.length, .ref h.length]) (h' := h_88) (fun _ => rfl) ?_
      refine rt_lalN rfl c_93 rfl (by omega) (by decide) (c3 2 (by decide)) ?_
      refine rt_k (k := 2) (pc' := 61) (L' := [some (.ref a)]) (st' := [.long ((lI u.1.2.2) + 1), .long 0, .long 0, .ref h.length, .ref h.length]) (h' := h_88) (fun _ => rfl) ?_
      have g1 := g_90
      have cn := c_94
      have l1 : h_88.length = h.length + 1 := by omega
      rw [lI_s1]
      have hv := ver_mk (X := X) (d := d + 1) (x := 0) (y := 0) (z := u.1.2.2 + 1) cn
      refine rt_c rfl rfl hv ?_
      rintro _ h2 ⟨rfl, g2, V2⟩
      obtain ⟨g3, z3⟩ := ver_fin h39 g1 l1 g2 V2
      have ev : vBrk u = ((0, 0, u.1.2.2 + 1), []) := by unfold vBrk; rw [if_neg (fun w => w e1), if_neg (fun w => w e2)]
      rw [ev]
      exact rt_r (v := some (.ref h.length)) rfl rfl (⟨_, rfl, g3, Nat.le_refl _, z3⟩)
    have e2 : ¬ u.1.2.1 = 0 := fun w => z2 ((lI_0 (by omega)).mpr w)
    refine rt_k (k := 1) (pc' := 41) (L' := [some (.ref a)]) (st' := [.ref a]) (h' := h) (fun _ => rfl) ?_
    refine rt_cv rfl (by decide) c1 rfl rfl rfl rfl (ver_min h39 Z) ?_
    rintro _ h2 ⟨a2, rfl, g2, l2, z3⟩
    have ev : vBrk u = vMin u := by unfold vBrk vMin; rw [if_neg (fun w => w e1), if_pos e2]
    rw [ev]
    refine rt_k (k := 1) (pc' := 64) (L' := [some (.ref a)]) (st' := [.ref a2]) (h' := h2) (fun _ => rfl) ?_
    exact rt_r (v := some (.ref a2)) rfl rfl (⟨a2, rfl, g2, l2, z3⟩)
  have e1 : ¬ u.1.1 = 0 := fun w => z1 ((lI_0 (by omega)).mpr w)
  refine rt_k (k := 1) (pc' := 14) (L' := [some (.ref a)]) (st' := [.ref h.length]) (h' := (h ++ [.inr (8, [.null])])) (fun _ => rfl) ?_
  refine rt_nm (fun h_95 e_96 => ?_)
  have g_97 : gr (fun _ => False) 1 (1) h h_95 := by rw [e_96]; exact gr_mo (gr_tr (gr_rf (h := h)) (gr_app (.inr (8, [.null])))) (fun _ q => q) (by first | exact Nat.le_refl _ | omega) (by first | exact Nat.le_refl _ | (simp only [ab_z]; omega))
  have n_98 : h_95.length = h.length + 1 := by rw [e_96]; simp
  have c_99 : h_95[a]? = some (.inr (8, [.ref k])) := by rw [e_96]; exact ha_old _ c1
  have c_100 : h_95[k]? = some (.inl (1, 7, .inr (.inl g))) := by rw [e_96]; exact ha_old _ c2
  have c_101 : h_95[h.length]? = some (.inr (8, [.null])) := by rw [e_96]; exact ha_new
  refine rt_k (k := 2) (pc' := 16) (L' := [some (.ref a)]) (st' := [.ref a, .ref h.length, .ref h.length]) (h' := h_95) (fun _ => rfl) ?_
  refine rt_gf rfl c_99 rfl rfl ?_
  refine rt_k (k := 1) (pc' := 20) (L' := [some (.ref a)]) (st' := [.int (nI 0), .ref k, .ref h.length, .ref h.length]) (h' := h_95) (fun _ => rfl) ?_
  refine rt_lalN rfl c_100 rfl (by omega) (by decide) (c3 0 (by decide)) ?_
  refine rt_k (k := 4) (pc' := 25) (L' := [some (.ref a)]) (st' := [.long 0, .long 0, .long ((lI u.1.1) + 1), .ref h.length, .ref h.length]) (h' := h_95) (fun _ => rfl) ?_
  have g1 := g_97
  have cn := c_101
  have l1 : h_95.length = h.length + 1 := by omega
  rw [lI_s1]
  have hv := ver_mk (X := X) (d := d + 1) (x := u.1.1 + 1) (y := 0) (z := 0) cn
  refine rt_c rfl rfl hv ?_
  rintro _ h2 ⟨rfl, g2, V2⟩
  obtain ⟨g3, z3⟩ := ver_fin h39 g1 l1 g2 V2
  have ev : vBrk u = ((u.1.1 + 1, 0, 0), []) := by unfold vBrk; rw [if_pos e1]
  rw [ev]
  exact rt_r (v := some (.ref h.length)) rfl rfl (⟨_, rfl, g3, Nat.le_refl _, z3⟩)
end TR

