/-! STRINGS, 3: constants. -/
section SV
variable {X : Nat × (Nat → Int32)} {d M pc r : Nat} {L : ab_Lo} {st : List Value} {h : List va_E} {Q : Option Value → List va_E → Prop}
theorem cb_0 {i : Nat} (hi : i < 5) {M pc : Nat} {L : ab_Lo} {st : List Value} {r : Nat} (hins : ab_k (tb_il M) pc = some (.baload, r)) (k : rt_ X d M (pc + 1) L (.int (by8 ((tx 0).getD i 0)) :: st) h Q) : rt_ X d M pc L (.int (nI i) :: .retAddr 2000 :: st) h Q := by
  by_cases e0 : i = 0
  · subst e0; exact rt_s1 hins rfl k
  by_cases e1 : i = 1
  · subst e1; exact rt_s1 hins rfl k
  by_cases e2 : i = 2
  · subst e2; exact rt_s1 hins rfl k
  by_cases e3 : i = 3
  · subst e3; exact rt_s1 hins rfl k
  by_cases e4 : i = 4
  · subst e4; exact rt_s1 hins rfl k
  omega
theorem ce_0b {v : Nat} {w : kW} (A : sSb h v w) (hw : w.length ≤ 400 ∧ ∀ c ∈ w, c < 256) (hl : w.length = 5) (i : Nat) (hi : i ≤ 5) (H : ∀ j, j < i → w.getD j 0 = (tx 0).getD j 0) : rt_ X d 188 9 [some (.ref v), some (.retAddr 2000), some (.int (nI i))] [] h (fun r h' => r = some (.int (tB (w = tx 0))) ∧ h' = h) := by
  obtain ⟨f, ⟨-, c1⟩, hf⟩ := id A
  have hx : ∀ j, (tx 0).getD j 0 < 256 := fun j => getD_lt (w := tx 0) (by decide) j
  refine rt_k (k := 2) (pc' := 11) (L' := [some (.ref v), some (.retAddr 2000), some (.int (nI i))]) (st' := [.ref v, .int (nI i)]) (h' := h) (fun _ => rfl) ?_
  refine rt_aln rfl c1 (by decide) ?_
  refine rt_ige rfl (by omega) (by omega) (fun z => ?_) (fun z => ?_)
  ·
    refine rt_k (k := 1) (pc' := 33) (L' := [some (.ref v), some (.retAddr 2000), some (.int (nI i))]) (st' := [.int (nI 1)]) (h' := h) (fun _ => rfl) ?_
    exact rt_r (v := some (.int (nI 1))) rfl rfl (⟨ret1 (w_ext (by rw [hl]; rfl) (fun j hj => H j (by omega))), rfl⟩)
  refine rt_k (k := 2) (pc' := 17) (L' := [some (.ref v), some (.retAddr 2000), some (.int (nI i))]) (st' := [.int (nI i), .ref v]) (h' := h) (fun _ => rfl) ?_
  refine rt_balN rfl c1 rfl (by omega) (by omega) (hf i z) ?_
  refine rt_k (k := 2) (pc' := 20) (L' := [some (.ref v), some (.retAddr 2000), some (.int (nI i))]) (st' := [.int (nI i), .retAddr 2000, .int (by8 (w.getD i 0))]) (h' := h) (fun _ => rfl) ?_
  refine cb_0 (by omega) rfl ?_
  refine rt_jeq rfl (fun z2 => ?_) (fun z2 => ?_)
  rotate_left
  ·
    refine rt_k (k := 1) (pc' := 25) (L' := [some (.ref v), some (.retAddr 2000), some (.int (nI i))]) (st' := [.int (nI 0)]) (h' := h) (fun _ => rfl) ?_
    exact rt_r (v := some (.int (nI 0))) rfl rfl (⟨ret0 (fun q => z2 (by rw [q])), rfl⟩)
  refine rt_inc (c := 1) rfl rfl ?_
  refine rt_k (k := 1) (pc' := 9) (L' := [some (.ref v), some (.retAddr 2000), some (.int (nI (i + 1)))]) (st' := []) (h' := h) (fun _ => rfl) ?_
  exact ce_0b A hw hl (i + 1) (by omega) (fun j hj => by
    by_cases q : j = i
    · subst q; exact by8_inj (getD_lt hw.2 _) (hx _) z2
    · exact H j (by omega))
termination_by 5 - i
theorem ce_0 {a : Nat} {w : kW} (A : sS h a w) : rt_ X (d + 1) 187 0 [some (.ref a), some (.retAddr 0), none] [] h (fun r h' => r = some (.int (tB (w = tx 0))) ∧ h' = h) := by
  obtain ⟨v, x, y, ⟨-, c1⟩, A1, A2, A3⟩ := id A
  have he : rt_ X d 188 0 [some (.ref v), some (.retAddr 2000), none] [] h (fun r h' => r = some (.int (tB (w = tx 0))) ∧ h' = h) := by
    obtain ⟨f, ⟨-, k1⟩, hf⟩ := id A1
    refine rt_k (k := 1) (pc' := 1) (L' := [some (.ref v), some (.retAddr 2000), none]) (st' := [.ref v]) (h' := h) (fun _ => rfl) ?_
    refine rt_aln rfl k1 (by decide) ?_
    refine rt_k (k := 2) (pc' := 4) (L' := [some (.ref v), some (.retAddr 2000), none]) (st' := [.int (nI 5), .int (nI w.length)]) (h' := h) (fun _ => rfl) ?_
    refine rt_ine rfl (by omega) (by decide) (fun z => ?_) (fun z => ?_)
    ·
      refine rt_k (k := 1) (pc' := 35) (L' := [some (.ref v), some (.retAddr 2000), none]) (st' := [.int (nI 0)]) (h' := h) (fun _ => rfl) ?_
      exact rt_r (v := some (.int (nI 0))) rfl rfl (⟨ret0 (fun q => z (by rw [q]; rfl)), rfl⟩)
    refine rt_k (k := 2) (pc' := 9) (L' := [some (.ref v), some (.retAddr 2000), some (.int (nI 0))]) (st' := []) (h' := h) (fun _ => rfl) ?_
    exact ce_0b A1 ⟨A2, A3⟩ z 0 (Nat.zero_le _) (fun j hj => absurd hj (Nat.not_lt_zero _))
  refine rt_k (k := 12) (pc' := 26) (L' := [some (.ref a), some (.retAddr 0), some (.retAddr 0)]) (st' := [.ref a]) (h' := h) (fun _ => rfl) ?_
  refine rt_gf rfl c1 rfl rfl ?_
  refine rt_k (k := 4) (pc' := 37) (L' := [some (.ref a), some (.retAddr 0), some (.retAddr 0)]) (st' := [.ref a]) (h' := h) (fun _ => rfl) ?_
  refine rt_gf rfl c1 rfl rfl ?_
  refine rt_k (k := 2) (pc' := 44) (L' := [some (.ref a), some (.retAddr 0), some (.retAddr 0)]) (st' := [.retAddr 2000, .ref v]) (h' := h) (fun _ => rfl) ?_
  refine rt_cE rfl rfl he ?_
  refine rt_pe rfl (fun z2 => ?_) (fun z2 => ?_)
  ·
    refine rt_k (k := 1) (pc' := 55) (L' := [some (.ref a), some (.retAddr 0), some (.retAddr 0)]) (st' := [.int (nI 0)]) (h' := h) (fun _ => rfl) ?_
    exact rt_r (v := some (.int (nI 0))) rfl rfl (⟨ret0 z2, rfl⟩)
  refine rt_k (k := 2) (pc' := 55) (L' := [some (.ref a), some (.retAddr 0), some (.retAddr 0)]) (st' := [.int (nI 1)]) (h' := h) (fun _ => rfl) ?_
  exact rt_r (v := some (.int (nI 1))) rfl rfl (⟨ret1 z2, rfl⟩)
theorem cn_0 : rt_ X (d + 1) 187 0 [some (.retAddr 5), some (.retAddr 0), none] [] h (fun r h' => r = some (.int (tB (([] : kW) = tx 0))) ∧ h' = h) := ⟨60, some (.int (nI 0)), h, rfl, ret0 (by decide), rfl⟩
theorem cb_1 {i : Nat} (hi : i < 6) {M pc : Nat} {L : ab_Lo} {st : List Value} {r : Nat} (hins : ab_k (tb_il M) pc = some (.baload, r)) (k : rt_ X d M (pc + 1) L (.int (by8 ((tx 1).getD i 0)) :: st) h Q) : rt_ X d M pc L (.int (nI i) :: .retAddr 2001 :: st) h Q := by
  by_cases e0 : i = 0
  · subst e0; exact rt_s1 hins rfl k
  by_cases e1 : i = 1
  · subst e1; exact rt_s1 hins rfl k
  by_cases e2 : i = 2
  · subst e2; exact rt_s1 hins rfl k
  by_cases e3 : i = 3
  · subst e3; exact rt_s1 hins rfl k
  by_cases e4 : i = 4
  · subst e4; exact rt_s1 hins rfl k
  by_cases e5 : i = 5
  · subst e5; exact rt_s1 hins rfl k
  omega
theorem ce_1b {v : Nat} {w : kW} (A : sSb h v w) (hw : w.length ≤ 400 ∧ ∀ c ∈ w, c < 256) (hl : w.length = 6) (i : Nat) (hi : i ≤ 6) (H : ∀ j, j < i → w.getD j 0 = (tx 1).getD j 0) : rt_ X d 188 9 [some (.ref v), some (.retAddr 2001), some (.int (nI i))] [] h (fun r h' => r = some (.int (tB (w = tx 1))) ∧ h' = h) := by
  obtain ⟨f, ⟨-, c1⟩, hf⟩ := id A
  have hx : ∀ j, (tx 1).getD j 0 < 256 := fun j => getD_lt (w := tx 1) (by decide) j
  refine rt_k (k := 2) (pc' := 11) (L' := [some (.ref v), some (.retAddr 2001), some (.int (nI i))]) (st' := [.ref v, .int (nI i)]) (h' := h) (fun _ => rfl) ?_
  refine rt_aln rfl c1 (by decide) ?_
  refine rt_ige rfl (by omega) (by omega) (fun z => ?_) (fun z => ?_)
  ·
    refine rt_k (k := 1) (pc' := 33) (L' := [some (.ref v), some (.retAddr 2001), some (.int (nI i))]) (st' := [.int (nI 1)]) (h' := h) (fun _ => rfl) ?_
    exact rt_r (v := some (.int (nI 1))) rfl rfl (⟨ret1 (w_ext (by rw [hl]; rfl) (fun j hj => H j (by omega))), rfl⟩)
  refine rt_k (k := 2) (pc' := 17) (L' := [some (.ref v), some (.retAddr 2001), some (.int (nI i))]) (st' := [.int (nI i), .ref v]) (h' := h) (fun _ => rfl) ?_
  refine rt_balN rfl c1 rfl (by omega) (by omega) (hf i z) ?_
  refine rt_k (k := 2) (pc' := 20) (L' := [some (.ref v), some (.retAddr 2001), some (.int (nI i))]) (st' := [.int (nI i), .retAddr 2001, .int (by8 (w.getD i 0))]) (h' := h) (fun _ => rfl) ?_
  refine cb_1 (by omega) rfl ?_
  refine rt_jeq rfl (fun z2 => ?_) (fun z2 => ?_)
  rotate_left
  ·
    refine rt_k (k := 1) (pc' := 25) (L' := [some (.ref v), some (.retAddr 2001), some (.int (nI i))]) (st' := [.int (nI 0)]) (h' := h) (fun _ => rfl) ?_
    exact rt_r (v := some (.int (nI 0))) rfl rfl (⟨ret0 (fun q => z2 (by rw [q])), rfl⟩)
  refine rt_inc (c := 1) rfl rfl ?_
  refine rt_k (k := 1) (pc' := 9) (L' := [some (.ref v), some (.retAddr 2001), some (.int (nI (i + 1)))]) (st' := []) (h' := h) (fun _ => rfl) ?_
  exact ce_1b A hw hl (i + 1) (by omega) (fun j hj => by
    by_cases q : j = i
    · subst q; exact by8_inj (getD_lt hw.2 _) (hx _) z2
    · exact H j (by omega))
termination_by 6 - i
theorem ce_1 {a : Nat} {w : kW} (A : sS h a w) : rt_ X (d + 1) 187 0 [some (.ref a), some (.retAddr 1), none] [] h (fun r h' => r = some (.int (tB (w = tx 1))) ∧ h' = h) := by
  obtain ⟨v, x, y, ⟨-, c1⟩, A1, A2, A3⟩ := id A
  have he : rt_ X d 188 0 [some (.ref v), some (.retAddr 2001), none] [] h (fun r h' => r = some (.int (tB (w = tx 1))) ∧ h' = h) := by
    obtain ⟨f, ⟨-, k1⟩, hf⟩ := id A1
    refine rt_k (k := 1) (pc' := 1) (L' := [some (.ref v), some (.retAddr 2001), none]) (st' := [.ref v]) (h' := h) (fun _ => rfl) ?_
    refine rt_aln rfl k1 (by decide) ?_
    refine rt_k (k := 2) (pc' := 4) (L' := [some (.ref v), some (.retAddr 2001), none]) (st' := [.int (nI 6), .int (nI w.length)]) (h' := h) (fun _ => rfl) ?_
    refine rt_ine rfl (by omega) (by decide) (fun z => ?_) (fun z => ?_)
    ·
      refine rt_k (k := 1) (pc' := 35) (L' := [some (.ref v), some (.retAddr 2001), none]) (st' := [.int (nI 0)]) (h' := h) (fun _ => rfl) ?_
      exact rt_r (v := some (.int (nI 0))) rfl rfl (⟨ret0 (fun q => z (by rw [q]; rfl)), rfl⟩)
    refine rt_k (k := 2) (pc' := 9) (L' := [some (.ref v), some (.retAddr 2001), some (.int (nI 0))]) (st' := []) (h' := h) (fun _ => rfl) ?_
    exact ce_1b A1 ⟨A2, A3⟩ z 0 (Nat.zero_le _) (fun j hj => absurd hj (Nat.not_lt_zero _))
  refine rt_k (k := 12) (pc' := 26) (L' := [some (.ref a), some (.retAddr 1), some (.retAddr 1)]) (st' := [.ref a]) (h' := h) (fun _ => rfl) ?_
  refine rt_gf rfl c1 rfl rfl ?_
  refine rt_k (k := 4) (pc' := 37) (L' := [some (.ref a), some (.retAddr 1), some (.retAddr 1)]) (st' := [.ref a]) (h' := h) (fun _ => rfl) ?_
  refine rt_gf rfl c1 rfl rfl ?_
  refine rt_k (k := 2) (pc' := 44) (L' := [some (.ref a), some (.retAddr 1), some (.retAddr 1)]) (st' := [.retAddr 2001, .ref v]) (h' := h) (fun _ => rfl) ?_
  refine rt_cE rfl rfl he ?_
  refine rt_pe rfl (fun z2 => ?_) (fun z2 => ?_)
  ·
    refine rt_k (k := 1) (pc' := 55) (L' := [some (.ref a), some (.retAddr 1), some (.retAddr 1)]) (st' := [.int (nI 0)]) (h' := h) (fun _ => rfl) ?_
    exact rt_r (v := some (.int (nI 0))) rfl rfl (⟨ret0 z2, rfl⟩)
  refine rt_k (k := 2) (pc' := 55) (L' := [some (.ref a), some (.retAddr 1), some (.retAddr 1)]) (st' := [.int (nI 1)]) (h' := h) (fun _ => rfl) ?_
  exact rt_r (v := some (.int (nI 1))) rfl rfl (⟨ret1 z2, rfl⟩)
theorem cn_1 : rt_ X (d + 1) 187 0 [some (.retAddr 5), some (.retAddr 1), none] [] h (fun r h' => r = some (.int (tB (([] : kW) = tx 1))) ∧ h' = h) := ⟨60, some (.int (nI 0)), h, rfl, ret0 (by decide), rfl⟩
theorem cb_2 {i : Nat} (hi : i < 4) {M pc : Nat} {L : ab_Lo} {st : List Value} {r : Nat} (hins : ab_k (tb_il M) pc = some (.baload, r)) (k : rt_ X d M (pc + 1) L (.int (by8 ((tx 2).getD i 0)) :: st) h Q) : rt_ X d M pc L (.int (nI i) :: .retAddr 2002 :: st) h Q := by
  by_cases e0 : i = 0
  · subst e0; exact rt_s1 hins rfl k
  by_cases e1 : i = 1
  · subst e1; exact rt_s1 hins rfl k
  by_cases e2 : i = 2
  · subst e2; exact rt_s1 hins rfl k
  by_cases e3 : i = 3
  · subst e3; exact rt_s1 hins rfl k
  omega
theorem ce_2b {v : Nat} {w : kW} (A : sSb h v w) (hw : w.length ≤ 400 ∧ ∀ c ∈ w, c < 256) (hl : w.length = 4) (i : Nat) (hi : i ≤ 4) (H : ∀ j, j < i → w.getD j 0 = (tx 2).getD j 0) : rt_ X d 188 9 [some (.ref v), some (.retAddr 2002), some (.int (nI i))] [] h (fun r h' => r = some (.int (tB (w = tx 2))) ∧ h' = h) := by
  obtain ⟨f, ⟨-, c1⟩, hf⟩ := id A
  have hx : ∀ j, (tx 2).getD j 0 < 256 := fun j => getD_lt (w := tx 2) (by decide) j
  refine rt_k (k := 2) (pc' := 11) (L' := [some (.ref v), some (.retAddr 2002), some (.int (nI i))]) (st' := [.ref v, .int (nI i)]) (h' := h) (fun _ => rfl) ?_
  refine rt_aln rfl c1 (by decide) ?_
  refine rt_ige rfl (by omega) (by omega) (fun z => ?_) (fun z => ?_)
  ·
    refine rt_k (k := 1) (pc' := 33) (L' := [some (.ref v), some (.retAddr 2002), some (.int (nI i))]) (st' := [.int (nI 1)]) (h' := h) (fun _ => rfl) ?_
    exact rt_r (v := some (.int (nI 1))) rfl rfl (⟨ret1 (w_ext (by rw [hl]; rfl) (fun j hj => H j (by omega))), rfl⟩)
  refine rt_k (k := 2) (pc' := 17) (L' := [some (.ref v), some (.retAddr 2002), some (.int (nI i))]) (st' := [.int (nI i), .ref v]) (h' := h) (fun _ => rfl) ?_
  refine rt_balN rfl c1 rfl (by omega) (by omega) (hf i z) ?_
  refine rt_k (k := 2) (pc' := 20) (L' := [some (.ref v), some (.retAddr 2002), some (.int (nI i))]) (st' := [.int (nI i), .retAddr 2002, .int (by8 (w.getD i 0))]) (h' := h) (fun _ => rfl) ?_
  refine cb_2 (by omega) rfl ?_
  refine rt_jeq rfl (fun z2 => ?_) (fun z2 => ?_)
  rotate_left
  ·
    refine rt_k (k := 1) (pc' := 25) (L' := [some (.ref v), some (.retAddr 2002), some (.int (nI i))]) (st' := [.int (nI 0)]) (h' := h) (fun _ => rfl) ?_
    exact rt_r (v := some (.int (nI 0))) rfl rfl (⟨ret0 (fun q => z2 (by rw [q])), rfl⟩)
  refine rt_inc (c := 1) rfl rfl ?_
  refine rt_k (k := 1) (pc' := 9) (L' := [some (.ref v), some (.retAddr 2002), some (.int (nI (i + 1)))]) (st' := []) (h' := h) (fun _ => rfl) ?_
  exact ce_2b A hw hl (i + 1) (by omega) (fun j hj => by
    by_cases q : j = i
    · subst q; exact by8_inj (getD_lt hw.2 _) (hx _) z2
    · exact H j (by omega))
termination_by 4 - i
theorem ce_2 {a : Nat} {w : kW} (A : sS h a w) : rt_ X (d + 1) 187 0 [some (.ref a), some (.retAddr 2), none] [] h (fun r h' => r = some (.int (tB (w = tx 2))) ∧ h' = h) := by
  obtain ⟨v, x, y, ⟨-, c1⟩, A1, A2, A3⟩ := id A
  have he : rt_ X d 188 0 [some (.ref v), some (.retAddr 2002), none] [] h (fun r h' => r = some (.int (tB (w = tx 2))) ∧ h' = h) := by
    obtain ⟨f, ⟨-, k1⟩, hf⟩ := id A1
    refine rt_k (k := 1) (pc' := 1) (L' := [some (.ref v), some (.retAddr 2002), none]) (st' := [.ref v]) (h' := h) (fun _ => rfl) ?_
    refine rt_aln rfl k1 (by decide) ?_
    refine rt_k (k := 2) (pc' := 4) (L' := [some (.ref v), some (.retAddr 2002), none]) (st' := [.int (nI 4), .int (nI w.length)]) (h' := h) (fun _ => rfl) ?_
    refine rt_ine rfl (by omega) (by decide) (fun z => ?_) (fun z => ?_)
    ·
      refine rt_k (k := 1) (pc' := 35) (L' := [some (.ref v), some (.retAddr 2002), none]) (st' := [.int (nI 0)]) (h' := h) (fun _ => rfl) ?_
      exact rt_r (v := some (.int (nI 0))) rfl rfl (⟨ret0 (fun q => z (by rw [q]; rfl)), rfl⟩)
    refine rt_k (k := 2) (pc' := 9) (L' := [some (.ref v), some (.retAddr 2002), some (.int (nI 0))]) (st' := []) (h' := h) (fun _ => rfl) ?_
    exact ce_2b A1 ⟨A2, A3⟩ z 0 (Nat.zero_le _) (fun j hj => absurd hj (Nat.not_lt_zero _))
  refine rt_k (k := 12) (pc' := 26) (L' := [some (.ref a), some (.retAddr 2), some (.retAddr 2)]) (st' := [.ref a]) (h' := h) (fun _ => rfl) ?_
  refine rt_gf rfl c1 rfl rfl ?_
  refine rt_k (k := 4) (pc' := 37) (L' := [some (.ref a), some (.retAddr 2), some (.retAddr 2)]) (st' := [.ref a]) (h' := h) (fun _ => rfl) ?_
  refine rt_gf rfl c1 rfl rfl ?_
  refine rt_k (k := 2) (pc' := 44) (L' := [some (.ref a), some (.retAddr 2), some (.retAddr 2)]) (st' := [.retAddr 2002, .ref v]) (h' := h) (fun _ => rfl) ?_
  refine rt_cE rfl rfl he ?_
  refine rt_pe rfl (fun z2 => ?_) (fun z2 => ?_)
  ·
    refine rt_k (k := 1) (pc' := 55) (L' := [some (.ref a), some (.retAddr 2), some (.retAddr 2)]) (st' := [.int (nI 0)]) (h' := h) (fun _ => rfl) ?_
    exact rt_r (v := some (.int (nI 0))) rfl rfl (⟨ret0 z2, rfl⟩)
  refine rt_k (k := 2) (pc' := 55) (L' := [some (.ref a), some (.retAddr 2), some (.retAddr 2)]) (st' := [.int (nI 1)]) (h' := h) (fun _ => rfl) ?_
  exact rt_r (v := some (.int (nI 1))) rfl rfl (⟨ret1 z2, rfl⟩)
theorem cn_2 : rt_ X (d + 1) 187 0 [some (.retAddr 5), some (.retAddr 2), none] [] h (fun r h' => r = some (.int (tB (([] : kW) = tx 2))) ∧ h' = h) := ⟨60, some (.int (nI 0)), h, rfl, ret0 (by decide), rfl⟩
theorem cb_3 {i : Nat} (hi : i < 1) {M pc : Nat} {L : ab_Lo} {st : List Value} {r : Nat} (hins : ab_k (tb_il M) pc = some (.baload, r)) (k : rt_ X d M (pc + 1) L (.int (by8 ((tx 3).getD i 0)) :: st) h Q) : rt_ X d M pc L (.int (nI i) :: .retAddr 2003 :: st) h Q := by
  by_cases e0 : i = 0
  · subst e0; exact rt_s1 hins rfl k
  omega
theorem ce_3b {v : Nat} {w : kW} (A : sSb h v w) (hw : w.length ≤ 400 ∧ ∀ c ∈ w, c < 256) (hl : w.length = 1) (i : Nat) (hi : i ≤ 1) (H : ∀ j, j < i → w.getD j 0 = (tx 3).getD j 0) : rt_ X d 188 9 [some (.ref v), some (.retAddr 2003), some (.int (nI i))] [] h (fun r h' => r = some (.int (tB (w = tx 3))) ∧ h' = h) := by
  obtain ⟨f, ⟨-, c1⟩, hf⟩ := id A
  have hx : ∀ j, (tx 3).getD j 0 < 256 := fun j => getD_lt (w := tx 3) (by decide) j
  refine rt_k (k := 2) (pc' := 11) (L' := [some (.ref v), some (.retAddr 2003), some (.int (nI i))]) (st' := [.ref v, .int (nI i)]) (h' := h) (fun _ => rfl) ?_
  refine rt_aln rfl c1 (by decide) ?_
  refine rt_ige rfl (by omega) (by omega) (fun z => ?_) (fun z => ?_)
  ·
    refine rt_k (k := 1) (pc' := 33) (L' := [some (.ref v), some (.retAddr 2003), some (.int (nI i))]) (st' := [.int (nI 1)]) (h' := h) (fun _ => rfl) ?_
    exact rt_r (v := some (.int (nI 1))) rfl rfl (⟨ret1 (w_ext (by rw [hl]; rfl) (fun j hj => H j (by omega))), rfl⟩)
  refine rt_k (k := 2) (pc' := 17) (L' := [some (.ref v), some (.retAddr 2003), some (.int (nI i))]) (st' := [.int (nI i), .ref v]) (h' := h) (fun _ => rfl) ?_
  refine rt_balN rfl c1 rfl (by omega) (by omega) (hf i z) ?_
  refine rt_k (k := 2) (pc' := 20) (L' := [some (.ref v), some (.retAddr 2003), some (.int (nI i))]) (st' := [.int (nI i), .retAddr 2003, .int (by8 (w.getD i 0))]) (h' := h) (fun _ => rfl) ?_
  refine cb_3 (by omega) rfl ?_
  refine rt_jeq rfl (fun z2 => ?_) (fun z2 => ?_)
  rotate_left
  ·
    refine rt_k (k := 1) (pc' := 25) (L' := [some (.ref v), some (.retAddr 2003), some (.int (nI i))]) (st' := [.int (nI 0)]) (h' := h) (fun _ => rfl) ?_
    exact rt_r (v := some (.int (nI 0))) rfl rfl (⟨ret0 (fun q => z2 (by rw [q])), rfl⟩)
  refine rt_inc (c := 1) rfl rfl ?_
  refine rt_k (k := 1) (pc' := 9) (L' := [some (.ref v), some (.retAddr 2003), some (.int (nI (i + 1)))]) (st' := []) (h' := h) (fun _ => rfl) ?_
  exact ce_3b A hw hl (i + 1) (by omega) (fun j hj => by
    by_cases q : j = i
    · subst q; exact by8_inj (getD_lt hw.2 _) (hx _) z2
    · exact H j (by omega))
termination_by 1 - i
theorem ce_3 {a : Nat} {w : kW} (A : sS h a w) : rt_ X (d + 1) 187 0 [some (.ref a), some (.retAddr 3), none] [] h (fun r h' => r = some (.int (tB (w = tx 3))) ∧ h' = h) := by
  obtain ⟨v, x, y, ⟨-, c1⟩, A1, A2, A3⟩ := id A
  have he : rt_ X d 188 0 [some (.ref v), some (.retAddr 2003), none] [] h (fun r h' => r = some (.int (tB (w = tx 3))) ∧ h' = h) := by
    obtain ⟨f, ⟨-, k1⟩, hf⟩ := id A1
    refine rt_k (k := 1) (pc' := 1) (L' := [some (.ref v), some (.retAddr 2003), none]) (st' := [.ref v]) (h' := h) (fun _ => rfl) ?_
    refine rt_aln rfl k1 (by decide) ?_
    refine rt_k (k := 2) (pc' := 4) (L' := [some (.ref v), some (.retAddr 2003), none]) (st' := [.int (nI 1), .int (nI w.length)]) (h' := h) (fun _ => rfl) ?_
    refine rt_ine rfl (by omega) (by decide) (fun z => ?_) (fun z => ?_)
    ·
      refine rt_k (k := 1) (pc' := 35) (L' := [some (.ref v), some (.retAddr 2003), none]) (st' := [.int (nI 0)]) (h' := h) (fun _ => rfl) ?_
      exact rt_r (v := some (.int (nI 0))) rfl rfl (⟨ret0 (fun q => z (by rw [q]; rfl)), rfl⟩)
    refine rt_k (k := 2) (pc' := 9) (L' := [some (.ref v), some (.retAddr 2003), some (.int (nI 0))]) (st' := []) (h' := h) (fun _ => rfl) ?_
    exact ce_3b A1 ⟨A2, A3⟩ z 0 (Nat.zero_le _) (fun j hj => absurd hj (Nat.not_lt_zero _))
  refine rt_k (k := 12) (pc' := 26) (L' := [some (.ref a), some (.retAddr 3), some (.retAddr 3)]) (st' := [.ref a]) (h' := h) (fun _ => rfl) ?_
  refine rt_gf rfl c1 rfl rfl ?_
  refine rt_k (k := 4) (pc' := 37) (L' := [some (.ref a), some (.retAddr 3), some (.retAddr 3)]) (st' := [.ref a]) (h' := h) (fun _ => rfl) ?_
  refine rt_gf rfl c1 rfl rfl ?_
  refine rt_k (k := 2) (pc' := 44) (L' := [some (.ref a), some (.retAddr 3), some (.retAddr 3)]) (st' := [.retAddr 2003, .ref v]) (h' := h) (fun _ => rfl) ?_
  refine rt_cE rfl rfl he ?_
  refine rt_pe rfl (fun z2 => ?_) (fun z2 => ?_)
  ·
    refine rt_k (k := 1) (pc' := 55) (L' := [some (.ref a), some (.retAddr 3), some (.retAddr 3)]) (st' := [.int (nI 0)]) (h' := h) (fun _ => rfl) ?_
    exact rt_r (v := some (.int (nI 0))) rfl rfl (⟨ret0 z2, rfl⟩)
  refine rt_k (k := 2) (pc' := 55) (L' := [some (.ref a), some (.retAddr 3), some (.retAddr 3)]) (st' := [.int (nI 1)]) (h' := h) (fun _ => rfl) ?_
  exact rt_r (v := some (.int (nI 1))) rfl rfl (⟨ret1 z2, rfl⟩)
theorem cn_3 : rt_ X (d + 1) 187 0 [some (.retAddr 5), some (.retAddr 3), none] [] h (fun r h' => r = some (.int (tB (([] : kW) = tx 3))) ∧ h' = h) := ⟨60, some (.int (nI 0)), h, rfl, ret0 (by decide), rfl⟩
theorem cb_4 {i : Nat} (hi : i < 2) {M pc : Nat} {L : ab_Lo} {st : List Value} {r : Nat} (hins : ab_k (tb_il M) pc = some (.baload, r)) (k : rt_ X d M (pc + 1) L (.int (by8 ((tx 4).getD i 0)) :: st) h Q) : rt_ X d M pc L (.int (nI i) :: .retAddr 2004 :: st) h Q := by
  by_cases e0 : i = 0
  · subst e0; exact rt_s1 hins rfl k
  by_cases e1 : i = 1
  · subst e1; exact rt_s1 hins rfl k
  omega
theorem ce_4b {v : Nat} {w : kW} (A : sSb h v w) (hw : w.length ≤ 400 ∧ ∀ c ∈ w, c < 256) (hl : w.length = 2) (i : Nat) (hi : i ≤ 2) (H : ∀ j, j < i → w.getD j 0 = (tx 4).getD j 0) : rt_ X d 188 9 [some (.ref v), some (.retAddr 2004), some (.int (nI i))] [] h (fun r h' => r = some (.int (tB (w = tx 4))) ∧ h' = h) := by
  obtain ⟨f, ⟨-, c1⟩, hf⟩ := id A
  have hx : ∀ j, (tx 4).getD j 0 < 256 := fun j => getD_lt (w := tx 4) (by decide) j
  refine rt_k (k := 2) (pc' := 11) (L' := [some (.ref v), some (.retAddr 2004), some (.int (nI i))]) (st' := [.ref v, .int (nI i)]) (h' := h) (fun _ => rfl) ?_
  refine rt_aln rfl c1 (by decide) ?_
  refine rt_ige rfl (by omega) (by omega) (fun z => ?_) (fun z => ?_)
  ·
    refine rt_k (k := 1) (pc' := 33) (L' := [some (.ref v), some (.retAddr 2004), some (.int (nI i))]) (st' := [.int (nI 1)]) (h' := h) (fun _ => rfl) ?_
    exact rt_r (v := some (.int (nI 1))) rfl rfl (⟨ret1 (w_ext (by rw [hl]; rfl) (fun j hj => H j (by omega))), rfl⟩)
  refine rt_k (k := 2) (pc' := 17) (L' := [some (.ref v), some (.retAddr 2004), some (.int (nI i))]) (st' := [.int (nI i), .ref v]) (h' := h) (fun _ => rfl) ?_
  refine rt_balN rfl c1 rfl (by omega) (by omega) (hf i z) ?_
  refine rt_k (k := 2) (pc' := 20) (L' := [some (.ref v), some (.retAddr 2004), some (.int (nI i))]) (st' := [.int (nI i), .retAddr 2004, .int (by8 (w.getD i 0))]) (h' := h) (fun _ => rfl) ?_
  refine cb_4 (by omega) rfl ?_
  refine rt_jeq rfl (fun z2 => ?_) (fun z2 => ?_)
  rotate_left
  ·
    refine rt_k (k := 1) (pc' := 25) (L' := [some (.ref v), some (.retAddr 2004), some (.int (nI i))]) (st' := [.int (nI 0)]) (h' := h) (fun _ => rfl) ?_
    exact rt_r (v := some (.int (nI 0))) rfl rfl (⟨ret0 (fun q => z2 (by rw [q])), rfl⟩)
  refine rt_inc (c := 1) rfl rfl ?_
  refine rt_k (k := 1) (pc' := 9) (L' := [some (.ref v), some (.retAddr 2004), some (.int (nI (i + 1)))]) (st' := []) (h' := h) (fun _ => rfl) ?_
  exact ce_4b A hw hl (i + 1) (by omega) (fun j hj => by
    by_cases q : j = i
    · subst q; exact by8_inj (getD_lt hw.2 _) (hx _) z2
    · exact H j (by omega))
termination_by 2 - i
theorem ce_4 {a : Nat} {w : kW} (A : sS h a w) : rt_ X (d + 1) 187 0 [some (.ref a), some (.retAddr 4), none] [] h (fun r h' => r = some (.int (tB (w = tx 4))) ∧ h' = h) := by
  obtain ⟨v, x, y, ⟨-, c1⟩, A1, A2, A3⟩ := id A
  have he : rt_ X d 188 0 [some (.ref v), some (.retAddr 2004), none] [] h (fun r h' => r = some (.int (tB (w = tx 4))) ∧ h' = h) := by
    obtain ⟨f, ⟨-, k1⟩, hf⟩ := id A1
    refine rt_k (k := 1) (pc' := 1) (L' := [some (.ref v), some (.retAddr 2004), none]) (st' := [.ref v]) (h' := h) (fun _ => rfl) ?_
    refine rt_aln rfl k1 (by decide) ?_
    refine rt_k (k := 2) (pc' := 4) (L' := [some (.ref v), some (.retAddr 2004), none]) (st' := [.int (nI 2), .int (nI w.length)]) (h' := h) (fun _ => rfl) ?_
    refine rt_ine rfl (by omega) (by decide) (fun z => ?_) (fun z => ?_)
    ·
      refine rt_k (k := 1) (pc' := 35) (L' := [some (.ref v), some (.retAddr 2004), none]) (st' := [.int (nI 0)]) (h' := h) (fun _ => rfl) ?_
      exact rt_r (v := some (.int (nI 0))) rfl rfl (⟨ret0 (fun q => z (by rw [q]; rfl)), rfl⟩)
    refine rt_k (k := 2) (pc' := 9) (L' := [some (.ref v), some (.retAddr 2004), some (.int (nI 0))]) (st' := []) (h' := h) (fun _ => rfl) ?_
    exact ce_4b A1 ⟨A2, A3⟩ z 0 (Nat.zero_le _) (fun j hj => absurd hj (Nat.not_lt_zero _))
  refine rt_k (k := 12) (pc' := 26) (L' := [some (.ref a), some (.retAddr 4), some (.retAddr 4)]) (st' := [.ref a]) (h' := h) (fun _ => rfl) ?_
  refine rt_gf rfl c1 rfl rfl ?_
  refine rt_k (k := 4) (pc' := 37) (L' := [some (.ref a), some (.retAddr 4), some (.retAddr 4)]) (st' := [.ref a]) (h' := h) (fun _ => rfl) ?_
  refine rt_gf rfl c1 rfl rfl ?_
  refine rt_k (k := 2) (pc' := 44) (L' := [some (.ref a), some (.retAddr 4), some (.retAddr 4)]) (st' := [.retAddr 2004, .ref v]) (h' := h) (fun _ => rfl) ?_
  refine rt_cE rfl rfl he ?_
  refine rt_pe rfl (fun z2 => ?_) (fun z2 => ?_)
  ·
    refine rt_k (k := 1) (pc' := 55) (L' := [some (.ref a), some (.retAddr 4), some (.retAddr 4)]) (st' := [.int (nI 0)]) (h' := h) (fun _ => rfl) ?_
    exact rt_r (v := some (.int (nI 0))) rfl rfl (⟨ret0 z2, rfl⟩)
  refine rt_k (k := 2) (pc' := 55) (L' := [some (.ref a), some (.retAddr 4), some (.retAddr 4)]) (st' := [.int (nI 1)]) (h' := h) (fun _ => rfl) ?_
  exact rt_r (v := some (.int (nI 1))) rfl rfl (⟨ret1 z2, rfl⟩)
theorem cn_4 : rt_ X (d + 1) 187 0 [some (.retAddr 5), some (.retAddr 4), none] [] h (fun r h' => r = some (.int (tB (([] : kW) = tx 4))) ∧ h' = h) := ⟨60, some (.int (nI 0)), h, rfl, ret0 (by decide), rfl⟩
theorem cb_6 {i : Nat} (hi : i < 2) {M pc : Nat} {L : ab_Lo} {st : List Value} {r : Nat} (hins : ab_k (tb_il M) pc = some (.baload, r)) (k : rt_ X d M (pc + 1) L (.int (by8 ((tx 6).getD i 0)) :: st) h Q) : rt_ X d M pc L (.int (nI i) :: .retAddr 2006 :: st) h Q := by
  by_cases e0 : i = 0
  · subst e0; exact rt_s1 hins rfl k
  by_cases e1 : i = 1
  · subst e1; exact rt_s1 hins rfl k
  omega
theorem cm_6 {v : Nat} {w : kW} (A : sSb h v w) (hw : w.length ≤ 400 ∧ ∀ c ∈ w, c < 256) (hl : 2 ≤ w.length) (i : Nat) (hi : i ≤ 2) (H : ∀ j, j < i → w.getD j 0 = (tx 6).getD j 0) (x6 x7 : Option Value) : rt_ X d 207 70 [some (.ref v), some (.int (nI 0)), some (.retAddr 2006), some (.int (nI 0)), some (.int (nI 2)), some (.int (nI i)), x6, x7] [] h (fun r h' => h' = h ∧ ((w.take 2 = tx 6 ∧ r = some (.int (-1))) ∨ (¬ w.take 2 = tx 6 ∧ ∃ j, j < 2 ∧ r = some (.int (nI j))))) := by
  obtain ⟨f, ⟨-, c1⟩, hf⟩ := id A
  have hx : ∀ j, (tx 6).getD j 0 < 256 := fun j => getD_lt (w := tx 6) (by decide) j
  have htk : ∀ j, j < 2 → (w.take 2).getD j 0 = w.getD j 0 := fun j hj => by rw [List.getD_eq_getElem?_getD, List.getD_eq_getElem?_getD, List.getElem?_take_of_lt hj]
  refine rt_k (k := 2) (pc' := 74) (L' := [some (.ref v), some (.int (nI 0)), some (.retAddr 2006), some (.int (nI 0)), some (.int (nI 2)), some (.int (nI i)), x6, x7]) (st' := [.int (nI 2), .int (nI i)]) (h' := h) (fun _ => rfl) ?_
  refine rt_ige rfl (by omega) (by decide) (fun z => ?_) (fun z => ?_)
  ·
    refine rt_k (k := 1) (pc' := 102) (L' := [some (.ref v), some (.int (nI 0)), some (.retAddr 2006), some (.int (nI 0)), some (.int (nI 2)), some (.int (nI i)), x6, x7]) (st' := [.int (-1)]) (h' := h) (fun _ => rfl) ?_
    exact rt_r (v := some (.int (-1))) rfl rfl (⟨rfl, Or.inl ⟨w_ext (by rw [List.length_take]; show min 2 w.length = 2; omega) (fun j hj => by rw [List.length_take] at hj; rw [htk j (by omega)]; exact H j (by omega)), rfl⟩⟩)
  refine rt_k (k := 3) (pc' := 81) (L' := [some (.ref v), some (.int (nI 0)), some (.retAddr 2006), some (.int (nI 0)), some (.int (nI 2)), some (.int (nI i)), x6, x7]) (st' := [.int (nI i), .int (nI 0), .ref v]) (h' := h) (fun _ => rfl) ?_
  refine rt_add rfl ?_
  rw [Nat.zero_add]
  refine rt_balN rfl c1 rfl (by omega) (by omega) (hf i (by omega)) ?_
  refine rt_k (k := 3) (pc' := 87) (L' := [some (.ref v), some (.int (nI 0)), some (.retAddr 2006), some (.int (nI 0)), some (.int (nI 2)), some (.int (nI i)), x6, x7]) (st' := [.int (nI i), .int (nI 0), .retAddr 2006, .int (by8 (w.getD i 0))]) (h' := h) (fun _ => rfl) ?_
  refine rt_add rfl ?_
  rw [Nat.zero_add]
  refine cb_6 (by omega) rfl ?_
  refine rt_jeq rfl (fun z2 => ?_) (fun z2 => ?_)
  rotate_left
  ·
    refine rt_k (k := 1) (pc' := 94) (L' := [some (.ref v), some (.int (nI 0)), some (.retAddr 2006), some (.int (nI 0)), some (.int (nI 2)), some (.int (nI i)), x6, x7]) (st' := [.int (nI i)]) (h' := h) (fun _ => rfl) ?_
    exact rt_r (v := some (.int (nI i))) rfl rfl (⟨rfl, Or.inr ⟨fun q => z2 (by rw [← htk i (by omega), q]), i, z, rfl⟩⟩)
  refine rt_inc (c := 1) rfl rfl ?_
  refine rt_k (k := 1) (pc' := 70) (L' := [some (.ref v), some (.int (nI 0)), some (.retAddr 2006), some (.int (nI 0)), some (.int (nI 2)), some (.int (nI (i + 1))), x6, x7]) (st' := []) (h' := h) (fun _ => rfl) ?_
  exact cm_6 A hw hl (i + 1) (by omega) (fun j hj => by
    by_cases q : j = i
    · subst q; exact by8_inj (getD_lt hw.2 _) (hx _) z2
    · exact H j (by omega)) _ _
termination_by 2 - i
theorem cs_6 {a : Nat} {w : kW} (A : sS h a w) : rt_ X (d + 3) 205 0 [some (.ref a), some (.retAddr 6)] [] h (fun r h' => r = some (.int (tB (w.take 2 = tx 6))) ∧ h' = h) := by
  obtain ⟨v, x, y, ⟨-, c1⟩, A1, A2, A3⟩ := id A
  have hco : rt_ X (d + 1) 29 0 [some (.ref a)] [] h (fun r h' => r = some (.int (nI 0)) ∧ h' = h) := by
    refine rt_k (k := 3) (pc' := 7) (L' := [some (.ref a)]) (st' := [.ref a]) (h' := h) (fun _ => rfl) ?_
    refine rt_gf rfl c1 rfl rfl ?_
    refine rt_k (k := 1) (pc' := 14) (L' := [some (.ref a)]) (st' := [.int (nI 0)]) (h' := h) (fun _ => rfl) ?_
    exact rt_r (v := some (.int (nI 0))) rfl rfl (⟨rfl, rfl⟩)
  have hcc : rt_ X (d + 1) 29 0 [some (.retAddr 6)] [] h (fun r h' => r = some (.int (nI 0)) ∧ h' = h) := ⟨20, some (.int (nI 0)), h, rfl, rfl, rfl⟩
  have main : rt_ X (d + 2) 206 0 [some (.ref a), some (.retAddr 6), some (.int (nI 0)), none, none, none, none, none] [] h (fun r h' => r = some (.int (tB (w.take 2 = tx 6))) ∧ h' = h) := by
    by_cases hl : 2 ≤ w.length
    · have t0 := trivial
      refine rt_k (k := 4) (pc' := 6) (L' := [some (.ref a), some (.retAddr 6), some (.int (nI 0)), none, none, none, none, none]) (st' := [.ref a, .int (nI 0)]) (h' := h) (fun _ => rfl) ?_
      refine rt_cvE rfl (by decide) c1 rfl rfl rfl rfl (st_len (d := d) A) ?_
      refine rt_k (k := 1) (pc' := 10) (L' := [some (.ref a), some (.retAddr 6), some (.int (nI 0)), none, none, none, none, none]) (st' := [.retAddr 6, .int (nI w.length), .int (nI 0)]) (h' := h) (fun _ => rfl) ?_
      refine rt_cE rfl rfl cst_len6 ?_
      refine rt_sub rfl (by omega) ?_
      refine rt_ile rfl (by decide) (by omega) (fun _ => ?_) (fun z => absurd z (by omega))
      refine rt_k (k := 1) (pc' := 20) (L' := [some (.ref a), some (.retAddr 6), some (.int (nI 0)), none, none, none, none, none]) (st' := [.ref a]) (h' := h) (fun _ => rfl) ?_
      refine rt_gf rfl c1 rfl rfl ?_
      refine rt_k (k := 10) (pc' := 39) (L' := [some (.ref a), some (.retAddr 6), some (.int (nI 0)), some (.ref v), some (.retAddr 2006), some (.int (nI 0)), some (.int (nI 2)), none]) (st' := [.ref a]) (h' := h) (fun _ => rfl) ?_
      refine rt_cvE rfl (by decide) c1 rfl rfl rfl rfl hco ?_
      refine rt_k (k := 3) (pc' := 47) (L' := [some (.ref a), some (.retAddr 6), some (.int (nI 0)), some (.ref v), some (.retAddr 2006), some (.int (nI 0)), some (.int (nI 2)), some (.int (nI 0))]) (st' := [.retAddr 6, .int (nI 0)]) (h' := h) (fun _ => rfl) ?_
      refine rt_cE rfl rfl hcc ?_
      refine rt_k (k := 9) (pc' := 70) (L' := [some (.ref a), some (.retAddr 6), some (.int (nI 0)), some (.ref v), some (.retAddr 2006), some (.int (nI 0)), some (.int (nI 2)), some (.int (nI 0))]) (st' := [.int (nI 2), .int (nI 0), .retAddr 2006, .int (nI 0), .ref v]) (h' := h) (fun _ => rfl) ?_
      have hm : rt_ X (d + 1) 207 0 [some (.ref v), some (.int (nI 0)), some (.retAddr 2006), some (.int (nI 0)), some (.int (nI 2)), none, none, none] [] h (fun r h' => h' = h ∧ ((w.take 2 = tx 6 ∧ r = some (.int (-1))) ∨ (¬ w.take 2 = tx 6 ∧ ∃ j, j < 2 ∧ r = some (.int (nI j))))) := by
        refine rt_k (k := 5) (pc' := 70) (L' := [some (.ref v), some (.int (nI 0)), some (.retAddr 2006), some (.int (nI 0)), some (.int (nI 2)), some (.int (nI 0)), none, none]) (st' := []) (h' := h) (fun _ => rfl) ?_
        exact cm_6 A1 ⟨A2, A3⟩ hl 0 (Nat.zero_le _) (fun j hj => absurd hj (Nat.not_lt_zero _)) _ _
      refine rt_cH rfl rfl hm ?_
      rintro _ (⟨q1, rfl⟩ | ⟨q1, j, hj, rfl⟩)
      ·
        refine rt_k (k := 3) (pc' := 81) (L' := [some (.ref a), some (.retAddr 6), some (.int (nI 0)), some (.ref v), some (.retAddr 2006), some (.int (nI 0)), some (.int (nI 2)), some (.int (nI 0))]) (st' := [.int (nI 1)]) (h' := h) (fun _ => rfl) ?_
        exact rt_r (v := some (.int (nI 1))) rfl rfl (⟨ret1 q1, rfl⟩)
      refine rt_zge rfl (by omega) ?_
      refine rt_k (k := 1) (pc' := 81) (L' := [some (.ref a), some (.retAddr 6), some (.int (nI 0)), some (.ref v), some (.retAddr 2006), some (.int (nI 0)), some (.int (nI 2)), some (.int (nI 0))]) (st' := [.int (nI 0)]) (h' := h) (fun _ => rfl) ?_
      exact rt_r (v := some (.int (nI 0))) rfl rfl (⟨ret0 q1, rfl⟩)
    · have t0 := trivial
      have hsub : nI w.length - nI 2 < nI 0 := by
        have h1 : ∀ z : Fin 2, nI z.1 - nI 2 < nI 0 := by decide
        exact h1 ⟨w.length, by omega⟩
      have hno : ¬ w.take 2 = tx 6 := fun q => by
        have := congrArg List.length q
        rw [List.length_take] at this
        have e : (tx 6).length = 2 := rfl
        omega
      refine rt_k (k := 4) (pc' := 6) (L' := [some (.ref a), some (.retAddr 6), some (.int (nI 0)), none, none, none, none, none]) (st' := [.ref a, .int (nI 0)]) (h' := h) (fun _ => rfl) ?_
      refine rt_cvE rfl (by decide) c1 rfl rfl rfl rfl (st_len (d := d) A) ?_
      refine rt_k (k := 1) (pc' := 10) (L' := [some (.ref a), some (.retAddr 6), some (.int (nI 0)), none, none, none, none, none]) (st' := [.retAddr 6, .int (nI w.length), .int (nI 0)]) (h' := h) (fun _ => rfl) ?_
      refine rt_cE rfl rfl cst_len6 ?_
      refine rt_k (k := 1) (pc' := 14) (L' := [some (.ref a), some (.retAddr 6), some (.int (nI 0)), none, none, none, none, none]) (st' := [.int (nI w.length - nI 2), .int (nI 0)]) (h' := h) (fun _ => rfl) ?_
      refine rt_jle rfl (fun z => absurd z ((fun y => Int32.not_le.mpr hsub y))) (fun _ => ?_)
      refine rt_k (k := 1) (pc' := 18) (L' := [some (.ref a), some (.retAddr 6), some (.int (nI 0)), none, none, none, none, none]) (st' := [.int (nI 0)]) (h' := h) (fun _ => rfl) ?_
      exact rt_r (v := some (.int (nI 0))) rfl rfl (⟨ret0 hno, rfl⟩)
  refine rt_k (k := 3) (pc' := 3) (L' := [some (.ref a), some (.retAddr 6)]) (st' := [.int (nI 0), .retAddr 6, .ref a]) (h' := h) (fun _ => rfl) ?_
  refine rt_cvE rfl (by decide) c1 rfl rfl rfl rfl main ?_
  exact rt_r (v := some (.int (tB (w.take 2 = tx 6)))) rfl (rtT rfl rfl) (⟨rfl, rfl⟩)
theorem cb_7 {i : Nat} (hi : i < 2) {M pc : Nat} {L : ab_Lo} {st : List Value} {r : Nat} (hins : ab_k (tb_il M) pc = some (.baload, r)) (k : rt_ X d M (pc + 1) L (.int (by8 ((tx 7).getD i 0)) :: st) h Q) : rt_ X d M pc L (.int (nI i) :: .retAddr 2007 :: st) h Q := by
  by_cases e0 : i = 0
  · subst e0; exact rt_s1 hins rfl k
  by_cases e1 : i = 1
  · subst e1; exact rt_s1 hins rfl k
  omega
theorem cm_7 {v : Nat} {w : kW} (A : sSb h v w) (hw : w.length ≤ 400 ∧ ∀ c ∈ w, c < 256) (hl : 2 ≤ w.length) (i : Nat) (hi : i ≤ 2) (H : ∀ j, j < i → w.getD j 0 = (tx 7).getD j 0) (x6 x7 : Option Value) : rt_ X d 207 70 [some (.ref v), some (.int (nI 0)), some (.retAddr 2007), some (.int (nI 0)), some (.int (nI 2)), some (.int (nI i)), x6, x7] [] h (fun r h' => h' = h ∧ ((w.take 2 = tx 7 ∧ r = some (.int (-1))) ∨ (¬ w.take 2 = tx 7 ∧ ∃ j, j < 2 ∧ r = some (.int (nI j))))) := by
  obtain ⟨f, ⟨-, c1⟩, hf⟩ := id A
  have hx : ∀ j, (tx 7).getD j 0 < 256 := fun j => getD_lt (w := tx 7) (by decide) j
  have htk : ∀ j, j < 2 → (w.take 2).getD j 0 = w.getD j 0 := fun j hj => by rw [List.getD_eq_getElem?_getD, List.getD_eq_getElem?_getD, List.getElem?_take_of_lt hj]
  refine rt_k (k := 2) (pc' := 74) (L' := [some (.ref v), some (.int (nI 0)), some (.retAddr 2007), some (.int (nI 0)), some (.int (nI 2)), some (.int (nI i)), x6, x7]) (st' := [.int (nI 2), .int (nI i)]) (h' := h) (fun _ => rfl) ?_
  refine rt_ige rfl (by omega) (by decide) (fun z => ?_) (fun z => ?_)
  ·
    refine rt_k (k := 1) (pc' := 102) (L' := [some (.ref v), some (.int (nI 0)), some (.retAddr 2007), some (.int (nI 0)), some (.int (nI 2)), some (.int (nI i)), x6, x7]) (st' := [.int (-1)]) (h' := h) (fun _ => rfl) ?_
    exact rt_r (v := some (.int (-1))) rfl rfl (⟨rfl, Or.inl ⟨w_ext (by rw [List.length_take]; show min 2 w.length = 2; omega) (fun j hj => by rw [List.length_take] at hj; rw [htk j (by omega)]; exact H j (by omega)), rfl⟩⟩)
  refine rt_k (k := 3) (pc' := 81) (L' := [some (.ref v), some (.int (nI 0)), some (.retAddr 2007), some (.int (nI 0)), some (.int (nI 2)), some (.int (nI i)), x6, x7]) (st' := [.int (nI i), .int (nI 0), .ref v]) (h' := h) (fun _ => rfl) ?_
  refine rt_add rfl ?_
  rw [Nat.zero_add]
  refine rt_balN rfl c1 rfl (by omega) (by omega) (hf i (by omega)) ?_
  refine rt_k (k := 3) (pc' := 87) (L' := [some (.ref v), some (.int (nI 0)), some (.retAddr 2007), some (.int (nI 0)), some (.int (nI 2)), some (.int (nI i)), x6, x7]) (st' := [.int (nI i), .int (nI 0), .retAddr 2007, .int (by8 (w.getD i 0))]) (h' := h) (fun _ => rfl) ?_
  refine rt_add rfl ?_
  rw [Nat.zero_add]
  refine cb_7 (by omega) rfl ?_
  refine rt_jeq rfl (fun z2 => ?_) (fun z2 => ?_)
  rotate_left
  ·
    refine rt_k (k := 1) (pc' := 94) (L' := [some (.ref v), some (.int (nI 0)), some (.retAddr 2007), some (.int (nI 0)), some (.int (nI 2)), some (.int (nI i)), x6, x7]) (st' := [.int (nI i)]) (h' := h) (fun _ => rfl) ?_
    exact rt_r (v := some (.int (nI i))) rfl rfl (⟨rfl, Or.inr ⟨fun q => z2 (by rw [← htk i (by omega), q]), i, z, rfl⟩⟩)
  refine rt_inc (c := 1) rfl rfl ?_
  refine rt_k (k := 1) (pc' := 70) (L' := [some (.ref v), some (.int (nI 0)), some (.retAddr 2007), some (.int (nI 0)), some (.int (nI 2)), some (.int (nI (i + 1))), x6, x7]) (st' := []) (h' := h) (fun _ => rfl) ?_
  exact cm_7 A hw hl (i + 1) (by omega) (fun j hj => by
    by_cases q : j = i
    · subst q; exact by8_inj (getD_lt hw.2 _) (hx _) z2
    · exact H j (by omega)) _ _
termination_by 2 - i
theorem cs_7 {a : Nat} {w : kW} (A : sS h a w) : rt_ X (d + 3) 205 0 [some (.ref a), some (.retAddr 7)] [] h (fun r h' => r = some (.int (tB (w.take 2 = tx 7))) ∧ h' = h) := by
  obtain ⟨v, x, y, ⟨-, c1⟩, A1, A2, A3⟩ := id A
  have hco : rt_ X (d + 1) 29 0 [some (.ref a)] [] h (fun r h' => r = some (.int (nI 0)) ∧ h' = h) := by
    refine rt_k (k := 3) (pc' := 7) (L' := [some (.ref a)]) (st' := [.ref a]) (h' := h) (fun _ => rfl) ?_
    refine rt_gf rfl c1 rfl rfl ?_
    refine rt_k (k := 1) (pc' := 14) (L' := [some (.ref a)]) (st' := [.int (nI 0)]) (h' := h) (fun _ => rfl) ?_
    exact rt_r (v := some (.int (nI 0))) rfl rfl (⟨rfl, rfl⟩)
  have hcc : rt_ X (d + 1) 29 0 [some (.retAddr 7)] [] h (fun r h' => r = some (.int (nI 0)) ∧ h' = h) := ⟨20, some (.int (nI 0)), h, rfl, rfl, rfl⟩
  have main : rt_ X (d + 2) 206 0 [some (.ref a), some (.retAddr 7), some (.int (nI 0)), none, none, none, none, none] [] h (fun r h' => r = some (.int (tB (w.take 2 = tx 7))) ∧ h' = h) := by
    by_cases hl : 2 ≤ w.length
    · have t0 := trivial
      refine rt_k (k := 4) (pc' := 6) (L' := [some (.ref a), some (.retAddr 7), some (.int (nI 0)), none, none, none, none, none]) (st' := [.ref a, .int (nI 0)]) (h' := h) (fun _ => rfl) ?_
      refine rt_cvE rfl (by decide) c1 rfl rfl rfl rfl (st_len (d := d) A) ?_
      refine rt_k (k := 1) (pc' := 10) (L' := [some (.ref a), some (.retAddr 7), some (.int (nI 0)), none, none, none, none, none]) (st' := [.retAddr 7, .int (nI w.length), .int (nI 0)]) (h' := h) (fun _ => rfl) ?_
      refine rt_cE rfl rfl cst_len7 ?_
      refine rt_sub rfl (by omega) ?_
      refine rt_ile rfl (by decide) (by omega) (fun _ => ?_) (fun z => absurd z (by omega))
      refine rt_k (k := 1) (pc' := 20) (L' := [some (.ref a), some (.retAddr 7), some (.int (nI 0)), none, none, none, none, none]) (st' := [.ref a]) (h' := h) (fun _ => rfl) ?_
      refine rt_gf rfl c1 rfl rfl ?_
      refine rt_k (k := 10) (pc' := 39) (L' := [some (.ref a), some (.retAddr 7), some (.int (nI 0)), some (.ref v), some (.retAddr 2007), some (.int (nI 0)), some (.int (nI 2)), none]) (st' := [.ref a]) (h' := h) (fun _ => rfl) ?_
      refine rt_cvE rfl (by decide) c1 rfl rfl rfl rfl hco ?_
      refine rt_k (k := 3) (pc' := 47) (L' := [some (.ref a), some (.retAddr 7), some (.int (nI 0)), some (.ref v), some (.retAddr 2007), some (.int (nI 0)), some (.int (nI 2)), some (.int (nI 0))]) (st' := [.retAddr 7, .int (nI 0)]) (h' := h) (fun _ => rfl) ?_
      refine rt_cE rfl rfl hcc ?_
      refine rt_k (k := 9) (pc' := 70) (L' := [some (.ref a), some (.retAddr 7), some (.int (nI 0)), some (.ref v), some (.retAddr 2007), some (.int (nI 0)), some (.int (nI 2)), some (.int (nI 0))]) (st' := [.int (nI 2), .int (nI 0), .retAddr 2007, .int (nI 0), .ref v]) (h' := h) (fun _ => rfl) ?_
      have hm : rt_ X (d + 1) 207 0 [some (.ref v), some (.int (nI 0)), some (.retAddr 2007), some (.int (nI 0)), some (.int (nI 2)), none, none, none] [] h (fun r h' => h' = h ∧ ((w.take 2 = tx 7 ∧ r = some (.int (-1))) ∨ (¬ w.take 2 = tx 7 ∧ ∃ j, j < 2 ∧ r = some (.int (nI j))))) := by
        refine rt_k (k := 5) (pc' := 70) (L' := [some (.ref v), some (.int (nI 0)), some (.retAddr 2007), some (.int (nI 0)), some (.int (nI 2)), some (.int (nI 0)), none, none]) (st' := []) (h' := h) (fun _ => rfl) ?_
        exact cm_7 A1 ⟨A2, A3⟩ hl 0 (Nat.zero_le _) (fun j hj => absurd hj (Nat.not_lt_zero _)) _ _
      refine rt_cH rfl rfl hm ?_
      rintro _ (⟨q1, rfl⟩ | ⟨q1, j, hj, rfl⟩)
      ·
        refine rt_k (k := 3) (pc' := 81) (L' := [some (.ref a), some (.retAddr 7), some (.int (nI 0)), some (.ref v), some (.retAddr 2007), some (.int (nI 0)), some (.int (nI 2)), some (.int (nI 0))]) (st' := [.int (nI 1)]) (h' := h) (fun _ => rfl) ?_
        exact rt_r (v := some (.int (nI 1))) rfl rfl (⟨ret1 q1, rfl⟩)
      refine rt_zge rfl (by omega) ?_
      refine rt_k (k := 1) (pc' := 81) (L' := [some (.ref a), some (.retAddr 7), some (.int (nI 0)), some (.ref v), some (.retAddr 2007), some (.int (nI 0)), some (.int (nI 2)), some (.int (nI 0))]) (st' := [.int (nI 0)]) (h' := h) (fun _ => rfl) ?_
      exact rt_r (v := some (.int (nI 0))) rfl rfl (⟨ret0 q1, rfl⟩)
    · have t0 := trivial
      have hsub : nI w.length - nI 2 < nI 0 := by
        have h1 : ∀ z : Fin 2, nI z.1 - nI 2 < nI 0 := by decide
        exact h1 ⟨w.length, by omega⟩
      have hno : ¬ w.take 2 = tx 7 := fun q => by
        have := congrArg List.length q
        rw [List.length_take] at this
        have e : (tx 7).length = 2 := rfl
        omega
      refine rt_k (k := 4) (pc' := 6) (L' := [some (.ref a), some (.retAddr 7), some (.int (nI 0)), none, none, none, none, none]) (st' := [.ref a, .int (nI 0)]) (h' := h) (fun _ => rfl) ?_
      refine rt_cvE rfl (by decide) c1 rfl rfl rfl rfl (st_len (d := d) A) ?_
      refine rt_k (k := 1) (pc' := 10) (L' := [some (.ref a), some (.retAddr 7), some (.int (nI 0)), none, none, none, none, none]) (st' := [.retAddr 7, .int (nI w.length), .int (nI 0)]) (h' := h) (fun _ => rfl) ?_
      refine rt_cE rfl rfl cst_len7 ?_
      refine rt_k (k := 1) (pc' := 14) (L' := [some (.ref a), some (.retAddr 7), some (.int (nI 0)), none, none, none, none, none]) (st' := [.int (nI w.length - nI 2), .int (nI 0)]) (h' := h) (fun _ => rfl) ?_
      refine rt_jle rfl (fun z => absurd z ((fun y => Int32.not_le.mpr hsub y))) (fun _ => ?_)
      refine rt_k (k := 1) (pc' := 18) (L' := [some (.ref a), some (.retAddr 7), some (.int (nI 0)), none, none, none, none, none]) (st' := [.int (nI 0)]) (h' := h) (fun _ => rfl) ?_
      exact rt_r (v := some (.int (nI 0))) rfl rfl (⟨ret0 hno, rfl⟩)
  refine rt_k (k := 3) (pc' := 3) (L' := [some (.ref a), some (.retAddr 7)]) (st' := [.int (nI 0), .retAddr 7, .ref a]) (h' := h) (fun _ => rfl) ?_
  refine rt_cvE rfl (by decide) c1 rfl rfl rfl rfl main ?_
  exact rt_r (v := some (.int (tB (w.take 2 = tx 7)))) rfl (rtT rfl rfl) (⟨rfl, rfl⟩)
theorem cb_8 {i : Nat} (hi : i < 1) {M pc : Nat} {L : ab_Lo} {st : List Value} {r : Nat} (hins : ab_k (tb_il M) pc = some (.baload, r)) (k : rt_ X d M (pc + 1) L (.int (by8 ((tx 8).getD i 0)) :: st) h Q) : rt_ X d M pc L (.int (nI i) :: .retAddr 2008 :: st) h Q := by
  by_cases e0 : i = 0
  · subst e0; exact rt_s1 hins rfl k
  omega
theorem cm_8 {v : Nat} {w : kW} (A : sSb h v w) (hw : w.length ≤ 400 ∧ ∀ c ∈ w, c < 256) (hl : 1 ≤ w.length) (i : Nat) (hi : i ≤ 1) (H : ∀ j, j < i → w.getD j 0 = (tx 8).getD j 0) (x6 x7 : Option Value) : rt_ X d 207 70 [some (.ref v), some (.int (nI 0)), some (.retAddr 2008), some (.int (nI 0)), some (.int (nI 1)), some (.int (nI i)), x6, x7] [] h (fun r h' => h' = h ∧ ((w.take 1 = tx 8 ∧ r = some (.int (-1))) ∨ (¬ w.take 1 = tx 8 ∧ ∃ j, j < 1 ∧ r = some (.int (nI j))))) := by
  obtain ⟨f, ⟨-, c1⟩, hf⟩ := id A
  have hx : ∀ j, (tx 8).getD j 0 < 256 := fun j => getD_lt (w := tx 8) (by decide) j
  have htk : ∀ j, j < 1 → (w.take 1).getD j 0 = w.getD j 0 := fun j hj => by rw [List.getD_eq_getElem?_getD, List.getD_eq_getElem?_getD, List.getElem?_take_of_lt hj]
  refine rt_k (k := 2) (pc' := 74) (L' := [some (.ref v), some (.int (nI 0)), some (.retAddr 2008), some (.int (nI 0)), some (.int (nI 1)), some (.int (nI i)), x6, x7]) (st' := [.int (nI 1), .int (nI i)]) (h' := h) (fun _ => rfl) ?_
  refine rt_ige rfl (by omega) (by decide) (fun z => ?_) (fun z => ?_)
  ·
    refine rt_k (k := 1) (pc' := 102) (L' := [some (.ref v), some (.int (nI 0)), some (.retAddr 2008), some (.int (nI 0)), some (.int (nI 1)), some (.int (nI i)), x6, x7]) (st' := [.int (-1)]) (h' := h) (fun _ => rfl) ?_
    exact rt_r (v := some (.int (-1))) rfl rfl (⟨rfl, Or.inl ⟨w_ext (by rw [List.length_take]; show min 1 w.length = 1; omega) (fun j hj => by rw [List.length_take] at hj; rw [htk j (by omega)]; exact H j (by omega)), rfl⟩⟩)
  refine rt_k (k := 3) (pc' := 81) (L' := [some (.ref v), some (.int (nI 0)), some (.retAddr 2008), some (.int (nI 0)), some (.int (nI 1)), some (.int (nI i)), x6, x7]) (st' := [.int (nI i), .int (nI 0), .ref v]) (h' := h) (fun _ => rfl) ?_
  refine rt_add rfl ?_
  rw [Nat.zero_add]
  refine rt_balN rfl c1 rfl (by omega) (by omega) (hf i (by omega)) ?_
  refine rt_k (k := 3) (pc' := 87) (L' := [some (.ref v), some (.int (nI 0)), some (.retAddr 2008), some (.int (nI 0)), some (.int (nI 1)), some (.int (nI i)), x6, x7]) (st' := [.int (nI i), .int (nI 0), .retAddr 2008, .int (by8 (w.getD i 0))]) (h' := h) (fun _ => rfl) ?_
  refine rt_add rfl ?_
  rw [Nat.zero_add]
  refine cb_8 (by omega) rfl ?_
  refine rt_jeq rfl (fun z2 => ?_) (fun z2 => ?_)
  rotate_left
  ·
    refine rt_k (k := 1) (pc' := 94) (L' := [some (.ref v), some (.int (nI 0)), some (.retAddr 2008), some (.int (nI 0)), some (.int (nI 1)), some (.int (nI i)), x6, x7]) (st' := [.int (nI i)]) (h' := h) (fun _ => rfl) ?_
    exact rt_r (v := some (.int (nI i))) rfl rfl (⟨rfl, Or.inr ⟨fun q => z2 (by rw [← htk i (by omega), q]), i, z, rfl⟩⟩)
  refine rt_inc (c := 1) rfl rfl ?_
  refine rt_k (k := 1) (pc' := 70) (L' := [some (.ref v), some (.int (nI 0)), some (.retAddr 2008), some (.int (nI 0)), some (.int (nI 1)), some (.int (nI (i + 1))), x6, x7]) (st' := []) (h' := h) (fun _ => rfl) ?_
  exact cm_8 A hw hl (i + 1) (by omega) (fun j hj => by
    by_cases q : j = i
    · subst q; exact by8_inj (getD_lt hw.2 _) (hx _) z2
    · exact H j (by omega)) _ _
termination_by 1 - i
theorem cs_8 {a : Nat} {w : kW} (A : sS h a w) : rt_ X (d + 3) 205 0 [some (.ref a), some (.retAddr 8)] [] h (fun r h' => r = some (.int (tB (w.take 1 = tx 8))) ∧ h' = h) := by
  obtain ⟨v, x, y, ⟨-, c1⟩, A1, A2, A3⟩ := id A
  have hco : rt_ X (d + 1) 29 0 [some (.ref a)] [] h (fun r h' => r = some (.int (nI 0)) ∧ h' = h) := by
    refine rt_k (k := 3) (pc' := 7) (L' := [some (.ref a)]) (st' := [.ref a]) (h' := h) (fun _ => rfl) ?_
    refine rt_gf rfl c1 rfl rfl ?_
    refine rt_k (k := 1) (pc' := 14) (L' := [some (.ref a)]) (st' := [.int (nI 0)]) (h' := h) (fun _ => rfl) ?_
    exact rt_r (v := some (.int (nI 0))) rfl rfl (⟨rfl, rfl⟩)
  have hcc : rt_ X (d + 1) 29 0 [some (.retAddr 8)] [] h (fun r h' => r = some (.int (nI 0)) ∧ h' = h) := ⟨20, some (.int (nI 0)), h, rfl, rfl, rfl⟩
  have main : rt_ X (d + 2) 206 0 [some (.ref a), some (.retAddr 8), some (.int (nI 0)), none, none, none, none, none] [] h (fun r h' => r = some (.int (tB (w.take 1 = tx 8))) ∧ h' = h) := by
    by_cases hl : 1 ≤ w.length
    · have t0 := trivial
      refine rt_k (k := 4) (pc' := 6) (L' := [some (.ref a), some (.retAddr 8), some (.int (nI 0)), none, none, none, none, none]) (st' := [.ref a, .int (nI 0)]) (h' := h) (fun _ => rfl) ?_
      refine rt_cvE rfl (by decide) c1 rfl rfl rfl rfl (st_len (d := d) A) ?_
      refine rt_k (k := 1) (pc' := 10) (L' := [some (.ref a), some (.retAddr 8), some (.int (nI 0)), none, none, none, none, none]) (st' := [.retAddr 8, .int (nI w.length), .int (nI 0)]) (h' := h) (fun _ => rfl) ?_
      refine rt_cE rfl rfl cst_len8 ?_
      refine rt_sub rfl (by omega) ?_
      refine rt_ile rfl (by decide) (by omega) (fun _ => ?_) (fun z => absurd z (by omega))
      refine rt_k (k := 1) (pc' := 20) (L' := [some (.ref a), some (.retAddr 8), some (.int (nI 0)), none, none, none, none, none]) (st' := [.ref a]) (h' := h) (fun _ => rfl) ?_
      refine rt_gf rfl c1 rfl rfl ?_
      refine rt_k (k := 10) (pc' := 39) (L' := [some (.ref a), some (.retAddr 8), some (.int (nI 0)), some (.ref v), some (.retAddr 2008), some (.int (nI 0)), some (.int (nI 1)), none]) (st' := [.ref a]) (h' := h) (fun _ => rfl) ?_
      refine rt_cvE rfl (by decide) c1 rfl rfl rfl rfl hco ?_
      refine rt_k (k := 3) (pc' := 47) (L' := [some (.ref a), some (.retAddr 8), some (.int (nI 0)), some (.ref v), some (.retAddr 2008), some (.int (nI 0)), some (.int (nI 1)), some (.int (nI 0))]) (st' := [.retAddr 8, .int (nI 0)]) (h' := h) (fun _ => rfl) ?_
      refine rt_cE rfl rfl hcc ?_
      refine rt_k (k := 9) (pc' := 70) (L' := [some (.ref a), some (.retAddr 8), some (.int (nI 0)), some (.ref v), some (.retAddr 2008), some (.int (nI 0)), some (.int (nI 1)), some (.int (nI 0))]) (st' := [.int (nI 1), .int (nI 0), .retAddr 2008, .int (nI 0), .ref v]) (h' := h) (fun _ => rfl) ?_
      have hm : rt_ X (d + 1) 207 0 [some (.ref v), some (.int (nI 0)), some (.retAddr 2008), some (.int (nI 0)), some (.int (nI 1)), none, none, none] [] h (fun r h' => h' = h ∧ ((w.take 1 = tx 8 ∧ r = some (.int (-1))) ∨ (¬ w.take 1 = tx 8 ∧ ∃ j, j < 1 ∧ r = some (.int (nI j))))) := by
        refine rt_k (k := 5) (pc' := 70) (L' := [some (.ref v), some (.int (nI 0)), some (.retAddr 2008), some (.int (nI 0)), some (.int (nI 1)), some (.int (nI 0)), none, none]) (st' := []) (h' := h) (fun _ => rfl) ?_
        exact cm_8 A1 ⟨A2, A3⟩ hl 0 (Nat.zero_le _) (fun j hj => absurd hj (Nat.not_lt_zero _)) _ _
      refine rt_cH rfl rfl hm ?_
      rintro _ (⟨q1, rfl⟩ | ⟨q1, j, hj, rfl⟩)
      ·
        refine rt_k (k := 3) (pc' := 81) (L' := [some (.ref a), some (.retAddr 8), some (.int (nI 0)), some (.ref v), some (.retAddr 2008), some (.int (nI 0)), some (.int (nI 1)), some (.int (nI 0))]) (st' := [.int (nI 1)]) (h' := h) (fun _ => rfl) ?_
        exact rt_r (v := some (.int (nI 1))) rfl rfl (⟨ret1 q1, rfl⟩)
      refine rt_zge rfl (by omega) ?_
      refine rt_k (k := 1) (pc' := 81) (L' := [some (.ref a), some (.retAddr 8), some (.int (nI 0)), some (.ref v), some (.retAddr 2008), some (.int (nI 0)), some (.int (nI 1)), some (.int (nI 0))]) (st' := [.int (nI 0)]) (h' := h) (fun _ => rfl) ?_
      exact rt_r (v := some (.int (nI 0))) rfl rfl (⟨ret0 q1, rfl⟩)
    · have t0 := trivial
      have hsub : nI w.length - nI 1 < nI 0 := by
        have h1 : ∀ z : Fin 1, nI z.1 - nI 1 < nI 0 := by decide
        exact h1 ⟨w.length, by omega⟩
      have hno : ¬ w.take 1 = tx 8 := fun q => by
        have := congrArg List.length q
        rw [List.length_take] at this
        have e : (tx 8).length = 1 := rfl
        omega
      refine rt_k (k := 4) (pc' := 6) (L' := [some (.ref a), some (.retAddr 8), some (.int (nI 0)), none, none, none, none, none]) (st' := [.ref a, .int (nI 0)]) (h' := h) (fun _ => rfl) ?_
      refine rt_cvE rfl (by decide) c1 rfl rfl rfl rfl (st_len (d := d) A) ?_
      refine rt_k (k := 1) (pc' := 10) (L' := [some (.ref a), some (.retAddr 8), some (.int (nI 0)), none, none, none, none, none]) (st' := [.retAddr 8, .int (nI w.length), .int (nI 0)]) (h' := h) (fun _ => rfl) ?_
      refine rt_cE rfl rfl cst_len8 ?_
      refine rt_k (k := 1) (pc' := 14) (L' := [some (.ref a), some (.retAddr 8), some (.int (nI 0)), none, none, none, none, none]) (st' := [.int (nI w.length - nI 1), .int (nI 0)]) (h' := h) (fun _ => rfl) ?_
      refine rt_jle rfl (fun z => absurd z ((fun y => Int32.not_le.mpr hsub y))) (fun _ => ?_)
      refine rt_k (k := 1) (pc' := 18) (L' := [some (.ref a), some (.retAddr 8), some (.int (nI 0)), none, none, none, none, none]) (st' := [.int (nI 0)]) (h' := h) (fun _ => rfl) ?_
      exact rt_r (v := some (.int (nI 0))) rfl rfl (⟨ret0 hno, rfl⟩)
  refine rt_k (k := 3) (pc' := 3) (L' := [some (.ref a), some (.retAddr 8)]) (st' := [.int (nI 0), .retAddr 8, .ref a]) (h' := h) (fun _ => rfl) ?_
  refine rt_cvE rfl (by decide) c1 rfl rfl rfl rfl main ?_
  exact rt_r (v := some (.int (tB (w.take 1 = tx 8)))) rfl (rtT rfl rfl) (⟨rfl, rfl⟩)
theorem cb_9 {i : Nat} (hi : i < 1) {M pc : Nat} {L : ab_Lo} {st : List Value} {r : Nat} (hins : ab_k (tb_il M) pc = some (.baload, r)) (k : rt_ X d M (pc + 1) L (.int (by8 ((tx 9).getD i 0)) :: st) h Q) : rt_ X d M pc L (.int (nI i) :: .retAddr 2009 :: st) h Q := by
  by_cases e0 : i = 0
  · subst e0; exact rt_s1 hins rfl k
  omega
theorem cm_9 {v : Nat} {w : kW} (A : sSb h v w) (hw : w.length ≤ 400 ∧ ∀ c ∈ w, c < 256) (hl : 1 ≤ w.length) (i : Nat) (hi : i ≤ 1) (H : ∀ j, j < i → w.getD j 0 = (tx 9).getD j 0) (x6 x7 : Option Value) : rt_ X d 207 70 [some (.ref v), some (.int (nI 0)), some (.retAddr 2009), some (.int (nI 0)), some (.int (nI 1)), some (.int (nI i)), x6, x7] [] h (fun r h' => h' = h ∧ ((w.take 1 = tx 9 ∧ r = some (.int (-1))) ∨ (¬ w.take 1 = tx 9 ∧ ∃ j, j < 1 ∧ r = some (.int (nI j))))) := by
  obtain ⟨f, ⟨-, c1⟩, hf⟩ := id A
  have hx : ∀ j, (tx 9).getD j 0 < 256 := fun j => getD_lt (w := tx 9) (by decide) j
  have htk : ∀ j, j < 1 → (w.take 1).getD j 0 = w.getD j 0 := fun j hj => by rw [List.getD_eq_getElem?_getD, List.getD_eq_getElem?_getD, List.getElem?_take_of_lt hj]
  refine rt_k (k := 2) (pc' := 74) (L' := [some (.ref v), some (.int (nI 0)), some (.retAddr 2009), some (.int (nI 0)), some (.int (nI 1)), some (.int (nI i)), x6, x7]) (st' := [.int (nI 1), .int (nI i)]) (h' := h) (fun _ => rfl) ?_
  refine rt_ige rfl (by omega) (by decide) (fun z => ?_) (fun z => ?_)
  ·
    refine rt_k (k := 1) (pc' := 102) (L' := [some (.ref v), some (.int (nI 0)), some (.retAddr 2009), some (.int (nI 0)), some (.int (nI 1)), some (.int (nI i)), x6, x7]) (st' := [.int (-1)]) (h' := h) (fun _ => rfl) ?_
    exact rt_r (v := some (.int (-1))) rfl rfl (⟨rfl, Or.inl ⟨w_ext (by rw [List.length_take]; show min 1 w.length = 1; omega) (fun j hj => by rw [List.length_take] at hj; rw [htk j (by omega)]; exact H j (by omega)), rfl⟩⟩)
  refine rt_k (k := 3) (pc' := 81) (L' := [some (.ref v), some (.int (nI 0)), some (.retAddr 2009), some (.int (nI 0)), some (.int (nI 1)), some (.int (nI i)), x6, x7]) (st' := [.int (nI i), .int (nI 0), .ref v]) (h' := h) (fun _ => rfl) ?_
  refine rt_add rfl ?_
  rw [Nat.zero_add]
  refine rt_balN rfl c1 rfl (by omega) (by omega) (hf i (by omega)) ?_
  refine rt_k (k := 3) (pc' := 87) (L' := [some (.ref v), some (.int (nI 0)), some (.retAddr 2009), some (.int (nI 0)), some (.int (nI 1)), some (.int (nI i)), x6, x7]) (st' := [.int (nI i), .int (nI 0), .retAddr 2009, .int (by8 (w.getD i 0))]) (h' := h) (fun _ => rfl) ?_
  refine rt_add rfl ?_
  rw [Nat.zero_add]
  refine cb_9 (by omega) rfl ?_
  refine rt_jeq rfl (fun z2 => ?_) (fun z2 => ?_)
  rotate_left
  ·
    refine rt_k (k := 1) (pc' := 94) (L' := [some (.ref v), some (.int (nI 0)), some (.retAddr 2009), some (.int (nI 0)), some (.int (nI 1)), some (.int (nI i)), x6, x7]) (st' := [.int (nI i)]) (h' := h) (fun _ => rfl) ?_
    exact rt_r (v := some (.int (nI i))) rfl rfl (⟨rfl, Or.inr ⟨fun q => z2 (by rw [← htk i (by omega), q]), i, z, rfl⟩⟩)
  refine rt_inc (c := 1) rfl rfl ?_
  refine rt_k (k := 1) (pc' := 70) (L' := [some (.ref v), some (.int (nI 0)), some (.retAddr 2009), some (.int (nI 0)), some (.int (nI 1)), some (.int (nI (i + 1))), x6, x7]) (st' := []) (h' := h) (fun _ => rfl) ?_
  exact cm_9 A hw hl (i + 1) (by omega) (fun j hj => by
    by_cases q : j = i
    · subst q; exact by8_inj (getD_lt hw.2 _) (hx _) z2
    · exact H j (by omega)) _ _
termination_by 1 - i
theorem cs_9 {a : Nat} {w : kW} (A : sS h a w) : rt_ X (d + 3) 205 0 [some (.ref a), some (.retAddr 9)] [] h (fun r h' => r = some (.int (tB (w.take 1 = tx 9))) ∧ h' = h) := by
  obtain ⟨v, x, y, ⟨-, c1⟩, A1, A2, A3⟩ := id A
  have hco : rt_ X (d + 1) 29 0 [some (.ref a)] [] h (fun r h' => r = some (.int (nI 0)) ∧ h' = h) := by
    refine rt_k (k := 3) (pc' := 7) (L' := [some (.ref a)]) (st' := [.ref a]) (h' := h) (fun _ => rfl) ?_
    refine rt_gf rfl c1 rfl rfl ?_
    refine rt_k (k := 1) (pc' := 14) (L' := [some (.ref a)]) (st' := [.int (nI 0)]) (h' := h) (fun _ => rfl) ?_
    exact rt_r (v := some (.int (nI 0))) rfl rfl (⟨rfl, rfl⟩)
  have hcc : rt_ X (d + 1) 29 0 [some (.retAddr 9)] [] h (fun r h' => r = some (.int (nI 0)) ∧ h' = h) := ⟨20, some (.int (nI 0)), h, rfl, rfl, rfl⟩
  have main : rt_ X (d + 2) 206 0 [some (.ref a), some (.retAddr 9), some (.int (nI 0)), none, none, none, none, none] [] h (fun r h' => r = some (.int (tB (w.take 1 = tx 9))) ∧ h' = h) := by
    by_cases hl : 1 ≤ w.length
    · have t0 := trivial
      refine rt_k (k := 4) (pc' := 6) (L' := [some (.ref a), some (.retAddr 9), some (.int (nI 0)), none, none, none, none, none]) (st' := [.ref a, .int (nI 0)]) (h' := h) (fun _ => rfl) ?_
      refine rt_cvE rfl (by decide) c1 rfl rfl rfl rfl (st_len (d := d) A) ?_
      refine rt_k (k := 1) (pc' := 10) (L' := [some (.ref a), some (.retAddr 9), some (.int (nI 0)), none, none, none, none, none]) (st' := [.retAddr 9, .int (nI w.length), .int (nI 0)]) (h' := h) (fun _ => rfl) ?_
      refine rt_cE rfl rfl cst_len9 ?_
      refine rt_sub rfl (by omega) ?_
      refine rt_ile rfl (by decide) (by omega) (fun _ => ?_) (fun z => absurd z (by omega))
      refine rt_k (k := 1) (pc' := 20) (L' := [some (.ref a), some (.retAddr 9), some (.int (nI 0)), none, none, none, none, none]) (st' := [.ref a]) (h' := h) (fun _ => rfl) ?_
      refine rt_gf rfl c1 rfl rfl ?_
      refine rt_k (k := 10) (pc' := 39) (L' := [some (.ref a), some (.retAddr 9), some (.int (nI 0)), some (.ref v), some (.retAddr 2009), some (.int (nI 0)), some (.int (nI 1)), none]) (st' := [.ref a]) (h' := h) (fun _ => rfl) ?_
      refine rt_cvE rfl (by decide) c1 rfl rfl rfl rfl hco ?_
      refine rt_k (k := 3) (pc' := 47) (L' := [some (.ref a), some (.retAddr 9), some (.int (nI 0)), some (.ref v), some (.retAddr 2009), some (.int (nI 0)), some (.int (nI 1)), some (.int (nI 0))]) (st' := [.retAddr 9, .int (nI 0)]) (h' := h) (fun _ => rfl) ?_
      refine rt_cE rfl rfl hcc ?_
      refine rt_k (k := 9) (pc' := 70) (L' := [some (.ref a), some (.retAddr 9), some (.int (nI 0)), some (.ref v), some (.retAddr 2009), some (.int (nI 0)), some (.int (nI 1)), some (.int (nI 0))]) (st' := [.int (nI 1), .int (nI 0), .retAddr 2009, .int (nI 0), .ref v]) (h' := h) (fun _ => rfl) ?_
      have hm : rt_ X (d + 1) 207 0 [some (.ref v), some (.int (nI 0)), some (.retAddr 2009), some (.int (nI 0)), some (.int (nI 1)), none, none, none] [] h (fun r h' => h' = h ∧ ((w.take 1 = tx 9 ∧ r = some (.int (-1))) ∨ (¬ w.take 1 = tx 9 ∧ ∃ j, j < 1 ∧ r = some (.int (nI j))))) := by
        refine rt_k (k := 5) (pc' := 70) (L' := [some (.ref v), some (.int (nI 0)), some (.retAddr 2009), some (.int (nI 0)), some (.int (nI 1)), some (.int (nI 0)), none, none]) (st' := []) (h' := h) (fun _ => rfl) ?_
        exact cm_9 A1 ⟨A2, A3⟩ hl 0 (Nat.zero_le _) (fun j hj => absurd hj (Nat.not_lt_zero _)) _ _
      refine rt_cH rfl rfl hm ?_
      rintro _ (⟨q1, rfl⟩ | ⟨q1, j, hj, rfl⟩)
      ·
        refine rt_k (k := 3) (pc' := 81) (L' := [some (.ref a), some (.retAddr 9), some (.int (nI 0)), some (.ref v), some (.retAddr 2009), some (.int (nI 0)), some (.int (nI 1)), some (.int (nI 0))]) (st' := [.int (nI 1)]) (h' := h) (fun _ => rfl) ?_
        exact rt_r (v := some (.int (nI 1))) rfl rfl (⟨ret1 q1, rfl⟩)
      refine rt_zge rfl (by omega) ?_
      refine rt_k (k := 1) (pc' := 81) (L' := [some (.ref a), some (.retAddr 9), some (.int (nI 0)), some (.ref v), some (.retAddr 2009), some (.int (nI 0)), some (.int (nI 1)), some (.int (nI 0))]) (st' := [.int (nI 0)]) (h' := h) (fun _ => rfl) ?_
      exact rt_r (v := some (.int (nI 0))) rfl rfl (⟨ret0 q1, rfl⟩)
    · have t0 := trivial
      have hsub : nI w.length - nI 1 < nI 0 := by
        have h1 : ∀ z : Fin 1, nI z.1 - nI 1 < nI 0 := by decide
        exact h1 ⟨w.length, by omega⟩
      have hno : ¬ w.take 1 = tx 9 := fun q => by
        have := congrArg List.length q
        rw [List.length_take] at this
        have e : (tx 9).length = 1 := rfl
        omega
      refine rt_k (k := 4) (pc' := 6) (L' := [some (.ref a), some (.retAddr 9), some (.int (nI 0)), none, none, none, none, none]) (st' := [.ref a, .int (nI 0)]) (h' := h) (fun _ => rfl) ?_
      refine rt_cvE rfl (by decide) c1 rfl rfl rfl rfl (st_len (d := d) A) ?_
      refine rt_k (k := 1) (pc' := 10) (L' := [some (.ref a), some (.retAddr 9), some (.int (nI 0)), none, none, none, none, none]) (st' := [.retAddr 9, .int (nI w.length), .int (nI 0)]) (h' := h) (fun _ => rfl) ?_
      refine rt_cE rfl rfl cst_len9 ?_
      refine rt_k (k := 1) (pc' := 14) (L' := [some (.ref a), some (.retAddr 9), some (.int (nI 0)), none, none, none, none, none]) (st' := [.int (nI w.length - nI 1), .int (nI 0)]) (h' := h) (fun _ => rfl) ?_
      refine rt_jle rfl (fun z => absurd z ((fun y => Int32.not_le.mpr hsub y))) (fun _ => ?_)
      refine rt_k (k := 1) (pc' := 18) (L' := [some (.ref a), some (.retAddr 9), some (.int (nI 0)), none, none, none, none, none]) (st' := [.int (nI 0)]) (h' := h) (fun _ => rfl) ?_
      exact rt_r (v := some (.int (nI 0))) rfl rfl (⟨ret0 hno, rfl⟩)
  refine rt_k (k := 3) (pc' := 3) (L' := [some (.ref a), some (.retAddr 9)]) (st' := [.int (nI 0), .retAddr 9, .ref a]) (h' := h) (fun _ => rfl) ?_
  refine rt_cvE rfl (by decide) c1 rfl rfl rfl rfl main ?_
  exact rt_r (v := some (.int (tB (w.take 1 = tx 9)))) rfl (rtT rfl rfl) (⟨rfl, rfl⟩)
theorem cb_10 {i : Nat} (hi : i < 1) {M pc : Nat} {L : ab_Lo} {st : List Value} {r : Nat} (hins : ab_k (tb_il M) pc = some (.baload, r)) (k : rt_ X d M (pc + 1) L (.int (by8 ((tx 10).getD i 0)) :: st) h Q) : rt_ X d M pc L (.int (nI i) :: .retAddr 2010 :: st) h Q := by
  by_cases e0 : i = 0
  · subst e0; exact rt_s1 hins rfl k
  omega
theorem cm_10 {v : Nat} {w : kW} (A : sSb h v w) (hw : w.length ≤ 400 ∧ ∀ c ∈ w, c < 256) (hl : 1 ≤ w.length) (i : Nat) (hi : i ≤ 1) (H : ∀ j, j < i → w.getD j 0 = (tx 10).getD j 0) (x6 x7 : Option Value) : rt_ X d 207 70 [some (.ref v), some (.int (nI 0)), some (.retAddr 2010), some (.int (nI 0)), some (.int (nI 1)), some (.int (nI i)), x6, x7] [] h (fun r h' => h' = h ∧ ((w.take 1 = tx 10 ∧ r = some (.int (-1))) ∨ (¬ w.take 1 = tx 10 ∧ ∃ j, j < 1 ∧ r = some (.int (nI j))))) := by
  obtain ⟨f, ⟨-, c1⟩, hf⟩ := id A
  have hx : ∀ j, (tx 10).getD j 0 < 256 := fun j => getD_lt (w := tx 10) (by decide) j
  have htk : ∀ j, j < 1 → (w.take 1).getD j 0 = w.getD j 0 := fun j hj => by rw [List.getD_eq_getElem?_getD, List.getD_eq_getElem?_getD, List.getElem?_take_of_lt hj]
  refine rt_k (k := 2) (pc' := 74) (L' := [some (.ref v), some (.int (nI 0)), some (.retAddr 2010), some (.int (nI 0)), some (.int (nI 1)), some (.int (nI i)), x6, x7]) (st' := [.int (nI 1), .int (nI i)]) (h' := h) (fun _ => rfl) ?_
  refine rt_ige rfl (by omega) (by decide) (fun z => ?_) (fun z => ?_)
  ·
    refine rt_k (k := 1) (pc' := 102) (L' := [some (.ref v), some (.int (nI 0)), some (.retAddr 2010), some (.int (nI 0)), some (.int (nI 1)), some (.int (nI i)), x6, x7]) (st' := [.int (-1)]) (h' := h) (fun _ => rfl) ?_
    exact rt_r (v := some (.int (-1))) rfl rfl (⟨rfl, Or.inl ⟨w_ext (by rw [List.length_take]; show min 1 w.length = 1; omega) (fun j hj => by rw [List.length_take] at hj; rw [htk j (by omega)]; exact H j (by omega)), rfl⟩⟩)
  refine rt_k (k := 3) (pc' := 81) (L' := [some (.ref v), some (.int (nI 0)), some (.retAddr 2010), some (.int (nI 0)), some (.int (nI 1)), some (.int (nI i)), x6, x7]) (st' := [.int (nI i), .int (nI 0), .ref v]) (h' := h) (fun _ => rfl) ?_
  refine rt_add rfl ?_
  rw [Nat.zero_add]
  refine rt_balN rfl c1 rfl (by omega) (by omega) (hf i (by omega)) ?_
  refine rt_k (k := 3) (pc' := 87) (L' := [some (.ref v), some (.int (nI 0)), some (.retAddr 2010), some (.int (nI 0)), some (.int (nI 1)), some (.int (nI i)), x6, x7]) (st' := [.int (nI i), .int (nI 0), .retAddr 2010, .int (by8 (w.getD i 0))]) (h' := h) (fun _ => rfl) ?_
  refine rt_add rfl ?_
  rw [Nat.zero_add]
  refine cb_10 (by omega) rfl ?_
  refine rt_jeq rfl (fun z2 => ?_) (fun z2 => ?_)
  rotate_left
  ·
    refine rt_k (k := 1) (pc' := 94) (L' := [some (.ref v), some (.int (nI 0)), some (.retAddr 2010), some (.int (nI 0)), some (.int (nI 1)), some (.int (nI i)), x6, x7]) (st' := [.int (nI i)]) (h' := h) (fun _ => rfl) ?_
    exact rt_r (v := some (.int (nI i))) rfl rfl (⟨rfl, Or.inr ⟨fun q => z2 (by rw [← htk i (by omega), q]), i, z, rfl⟩⟩)
  refine rt_inc (c := 1) rfl rfl ?_
  refine rt_k (k := 1) (pc' := 70) (L' := [some (.ref v), some (.int (nI 0)), some (.retAddr 2010), some (.int (nI 0)), some (.int (nI 1)), some (.int (nI (i + 1))), x6, x7]) (st' := []) (h' := h) (fun _ => rfl) ?_
  exact cm_10 A hw hl (i + 1) (by omega) (fun j hj => by
    by_cases q : j = i
    · subst q; exact by8_inj (getD_lt hw.2 _) (hx _) z2
    · exact H j (by omega)) _ _
termination_by 1 - i
theorem cs_10 {a : Nat} {w : kW} (A : sS h a w) : rt_ X (d + 3) 205 0 [some (.ref a), some (.retAddr 10)] [] h (fun r h' => r = some (.int (tB (w.take 1 = tx 10))) ∧ h' = h) := by
  obtain ⟨v, x, y, ⟨-, c1⟩, A1, A2, A3⟩ := id A
  have hco : rt_ X (d + 1) 29 0 [some (.ref a)] [] h (fun r h' => r = some (.int (nI 0)) ∧ h' = h) := by
    refine rt_k (k := 3) (pc' := 7) (L' := [some (.ref a)]) (st' := [.ref a]) (h' := h) (fun _ => rfl) ?_
    refine rt_gf rfl c1 rfl rfl ?_
    refine rt_k (k := 1) (pc' := 14) (L' := [some (.ref a)]) (st' := [.int (nI 0)]) (h' := h) (fun _ => rfl) ?_
    exact rt_r (v := some (.int (nI 0))) rfl rfl (⟨rfl, rfl⟩)
  have hcc : rt_ X (d + 1) 29 0 [some (.retAddr 10)] [] h (fun r h' => r = some (.int (nI 0)) ∧ h' = h) := ⟨20, some (.int (nI 0)), h, rfl, rfl, rfl⟩
  have main : rt_ X (d + 2) 206 0 [some (.ref a), some (.retAddr 10), some (.int (nI 0)), none, none, none, none, none] [] h (fun r h' => r = some (.int (tB (w.take 1 = tx 10))) ∧ h' = h) := by
    by_cases hl : 1 ≤ w.length
    · have t0 := trivial
      refine rt_k (k := 4) (pc' := 6) (L' := [some (.ref a), some (.retAddr 10), some (.int (nI 0)), none, none, none, none, none]) (st' := [.ref a, .int (nI 0)]) (h' := h) (fun _ => rfl) ?_
      refine rt_cvE rfl (by decide) c1 rfl rfl rfl rfl (st_len (d := d) A) ?_
      refine rt_k (k := 1) (pc' := 10) (L' := [some (.ref a), some (.retAddr 10), some (.int (nI 0)), none, none, none, none, none]) (st' := [.retAddr 10, .int (nI w.length), .int (nI 0)]) (h' := h) (fun _ => rfl) ?_
      refine rt_cE rfl rfl cst_len10 ?_
      refine rt_sub rfl (by omega) ?_
      refine rt_ile rfl (by decide) (by omega) (fun _ => ?_) (fun z => absurd z (by omega))
      refine rt_k (k := 1) (pc' := 20) (L' := [some (.ref a), some (.retAddr 10), some (.int (nI 0)), none, none, none, none, none]) (st' := [.ref a]) (h' := h) (fun _ => rfl) ?_
      refine rt_gf rfl c1 rfl rfl ?_
      refine rt_k (k := 10) (pc' := 39) (L' := [some (.ref a), some (.retAddr 10), some (.int (nI 0)), some (.ref v), some (.retAddr 2010), some (.int (nI 0)), some (.int (nI 1)), none]) (st' := [.ref a]) (h' := h) (fun _ => rfl) ?_
      refine rt_cvE rfl (by decide) c1 rfl rfl rfl rfl hco ?_
      refine rt_k (k := 3) (pc' := 47) (L' := [some (.ref a), some (.retAddr 10), some (.int (nI 0)), some (.ref v), some (.retAddr 2010), some (.int (nI 0)), some (.int (nI 1)), some (.int (nI 0))]) (st' := [.retAddr 10, .int (nI 0)]) (h' := h) (fun _ => rfl) ?_
      refine rt_cE rfl rfl hcc ?_
      refine rt_k (k := 9) (pc' := 70) (L' := [some (.ref a), some (.retAddr 10), some (.int (nI 0)), some (.ref v), some (.retAddr 2010), some (.int (nI 0)), some (.int (nI 1)), some (.int (nI 0))]) (st' := [.int (nI 1), .int (nI 0), .retAddr 2010, .int (nI 0), .ref v]) (h' := h) (fun _ => rfl) ?_
      have hm : rt_ X (d + 1) 207 0 [some (.ref v), some (.int (nI 0)), some (.retAddr 2010), some (.int (nI 0)), some (.int (nI 1)), none, none, none] [] h (fun r h' => h' = h ∧ ((w.take 1 = tx 10 ∧ r = some (.int (-1))) ∨ (¬ w.take 1 = tx 10 ∧ ∃ j, j < 1 ∧ r = some (.int (nI j))))) := by
        refine rt_k (k := 5) (pc' := 70) (L' := [some (.ref v), some (.int (nI 0)), some (.retAddr 2010), some (.int (nI 0)), some (.int (nI 1)), some (.int (nI 0)), none, none]) (st' := []) (h' := h) (fun _ => rfl) ?_
        exact cm_10 A1 ⟨A2, A3⟩ hl 0 (Nat.zero_le _) (fun j hj => absurd hj (Nat.not_lt_zero _)) _ _
      refine rt_cH rfl rfl hm ?_
      rintro _ (⟨q1, rfl⟩ | ⟨q1, j, hj, rfl⟩)
      ·
        refine rt_k (k := 3) (pc' := 81) (L' := [some (.ref a), some (.retAddr 10), some (.int (nI 0)), some (.ref v), some (.retAddr 2010), some (.int (nI 0)), some (.int (nI 1)), some (.int (nI 0))]) (st' := [.int (nI 1)]) (h' := h) (fun _ => rfl) ?_
        exact rt_r (v := some (.int (nI 1))) rfl rfl (⟨ret1 q1, rfl⟩)
      refine rt_zge rfl (by omega) ?_
      refine rt_k (k := 1) (pc' := 81) (L' := [some (.ref a), some (.retAddr 10), some (.int (nI 0)), some (.ref v), some (.retAddr 2010), some (.int (nI 0)), some (.int (nI 1)), some (.int (nI 0))]) (st' := [.int (nI 0)]) (h' := h) (fun _ => rfl) ?_
      exact rt_r (v := some (.int (nI 0))) rfl rfl (⟨ret0 q1, rfl⟩)
    · have t0 := trivial
      have hsub : nI w.length - nI 1 < nI 0 := by
        have h1 : ∀ z : Fin 1, nI z.1 - nI 1 < nI 0 := by decide
        exact h1 ⟨w.length, by omega⟩
      have hno : ¬ w.take 1 = tx 10 := fun q => by
        have := congrArg List.length q
        rw [List.length_take] at this
        have e : (tx 10).length = 1 := rfl
        omega
      refine rt_k (k := 4) (pc' := 6) (L' := [some (.ref a), some (.retAddr 10), some (.int (nI 0)), none, none, none, none, none]) (st' := [.ref a, .int (nI 0)]) (h' := h) (fun _ => rfl) ?_
      refine rt_cvE rfl (by decide) c1 rfl rfl rfl rfl (st_len (d := d) A) ?_
      refine rt_k (k := 1) (pc' := 10) (L' := [some (.ref a), some (.retAddr 10), some (.int (nI 0)), none, none, none, none, none]) (st' := [.retAddr 10, .int (nI w.length), .int (nI 0)]) (h' := h) (fun _ => rfl) ?_
      refine rt_cE rfl rfl cst_len10 ?_
      refine rt_k (k := 1) (pc' := 14) (L' := [some (.ref a), some (.retAddr 10), some (.int (nI 0)), none, none, none, none, none]) (st' := [.int (nI w.length - nI 1), .int (nI 0)]) (h' := h) (fun _ => rfl) ?_
      refine rt_jle rfl (fun z => absurd z ((fun y => Int32.not_le.mpr hsub y))) (fun _ => ?_)
      refine rt_k (k := 1) (pc' := 18) (L' := [some (.ref a), some (.retAddr 10), some (.int (nI 0)), none, none, none, none, none]) (st' := [.int (nI 0)]) (h' := h) (fun _ => rfl) ?_
      exact rt_r (v := some (.int (nI 0))) rfl rfl (⟨ret0 hno, rfl⟩)
  refine rt_k (k := 3) (pc' := 3) (L' := [some (.ref a), some (.retAddr 10)]) (st' := [.int (nI 0), .retAddr 10, .ref a]) (h' := h) (fun _ => rfl) ?_
  refine rt_cvE rfl (by decide) c1 rfl rfl rfl rfl main ?_
  exact rt_r (v := some (.int (tB (w.take 1 = tx 10)))) rfl (rtT rfl rfl) (⟨rfl, rfl⟩)
theorem cb_11 {i : Nat} (hi : i < 1) {M pc : Nat} {L : ab_Lo} {st : List Value} {r : Nat} (hins : ab_k (tb_il M) pc = some (.baload, r)) (k : rt_ X d M (pc + 1) L (.int (by8 ((tx 11).getD i 0)) :: st) h Q) : rt_ X d M pc L (.int (nI i) :: .retAddr 2011 :: st) h Q := by
  by_cases e0 : i = 0
  · subst e0; exact rt_s1 hins rfl k
  omega
theorem cm_11 {v : Nat} {w : kW} (A : sSb h v w) (hw : w.length ≤ 400 ∧ ∀ c ∈ w, c < 256) (hl : 1 ≤ w.length) (i : Nat) (hi : i ≤ 1) (H : ∀ j, j < i → w.getD j 0 = (tx 11).getD j 0) (x6 x7 : Option Value) : rt_ X d 207 70 [some (.ref v), some (.int (nI 0)), some (.retAddr 2011), some (.int (nI 0)), some (.int (nI 1)), some (.int (nI i)), x6, x7] [] h (fun r h' => h' = h ∧ ((w.take 1 = tx 11 ∧ r = some (.int (-1))) ∨ (¬ w.take 1 = tx 11 ∧ ∃ j, j < 1 ∧ r = some (.int (nI j))))) := by
  obtain ⟨f, ⟨-, c1⟩, hf⟩ := id A
  have hx : ∀ j, (tx 11).getD j 0 < 256 := fun j => getD_lt (w := tx 11) (by decide) j
  have htk : ∀ j, j < 1 → (w.take 1).getD j 0 = w.getD j 0 := fun j hj => by rw [List.getD_eq_getElem?_getD, List.getD_eq_getElem?_getD, List.getElem?_take_of_lt hj]
  refine rt_k (k := 2) (pc' := 74) (L' := [some (.ref v), some (.int (nI 0)), some (.retAddr 2011), some (.int (nI 0)), some (.int (nI 1)), some (.int (nI i)), x6, x7]) (st' := [.int (nI 1), .int (nI i)]) (h' := h) (fun _ => rfl) ?_
  refine rt_ige rfl (by omega) (by decide) (fun z => ?_) (fun z => ?_)
  ·
    refine rt_k (k := 1) (pc' := 102) (L' := [some (.ref v), some (.int (nI 0)), some (.retAddr 2011), some (.int (nI 0)), some (.int (nI 1)), some (.int (nI i)), x6, x7]) (st' := [.int (-1)]) (h' := h) (fun _ => rfl) ?_
    exact rt_r (v := some (.int (-1))) rfl rfl (⟨rfl, Or.inl ⟨w_ext (by rw [List.length_take]; show min 1 w.length = 1; omega) (fun j hj => by rw [List.length_take] at hj; rw [htk j (by omega)]; exact H j (by omega)), rfl⟩⟩)
  refine rt_k (k := 3) (pc' := 81) (L' := [some (.ref v), some (.int (nI 0)), some (.retAddr 2011), some (.int (nI 0)), some (.int (nI 1)), some (.int (nI i)), x6, x7]) (st' := [.int (nI i), .int (nI 0), .ref v]) (h' := h) (fun _ => rfl) ?_
  refine rt_add rfl ?_
  rw [Nat.zero_add]
  refine rt_balN rfl c1 rfl (by omega) (by omega) (hf i (by omega)) ?_
  refine rt_k (k := 3) (pc' := 87) (L' := [some (.ref v), some (.int (nI 0)), some (.retAddr 2011), some (.int (nI 0)), some (.int (nI 1)), some (.int (nI i)), x6, x7]) (st' := [.int (nI i), .int (nI 0), .retAddr 2011, .int (by8 (w.getD i 0))]) (h' := h) (fun _ => rfl) ?_
  refine rt_add rfl ?_
  rw [Nat.zero_add]
  refine cb_11 (by omega) rfl ?_
  refine rt_jeq rfl (fun z2 => ?_) (fun z2 => ?_)
  rotate_left
  ·
    refine rt_k (k := 1) (pc' := 94) (L' := [some (.ref v), some (.int (nI 0)), some (.retAddr 2011), some (.int (nI 0)), some (.int (nI 1)), some (.int (nI i)), x6, x7]) (st' := [.int (nI i)]) (h' := h) (fun _ => rfl) ?_
    exact rt_r (v := some (.int (nI i))) rfl rfl (⟨rfl, Or.inr ⟨fun q => z2 (by rw [← htk i (by omega), q]), i, z, rfl⟩⟩)
  refine rt_inc (c := 1) rfl rfl ?_
  refine rt_k (k := 1) (pc' := 70) (L' := [some (.ref v), some (.int (nI 0)), some (.retAddr 2011), some (.int (nI 0)), some (.int (nI 1)), some (.int (nI (i + 1))), x6, x7]) (st' := []) (h' := h) (fun _ => rfl) ?_
  exact cm_11 A hw hl (i + 1) (by omega) (fun j hj => by
    by_cases q : j = i
    · subst q; exact by8_inj (getD_lt hw.2 _) (hx _) z2
    · exact H j (by omega)) _ _
termination_by 1 - i
theorem cs_11 {a : Nat} {w : kW} (A : sS h a w) : rt_ X (d + 3) 205 0 [some (.ref a), some (.retAddr 11)] [] h (fun r h' => r = some (.int (tB (w.take 1 = tx 11))) ∧ h' = h) := by
  obtain ⟨v, x, y, ⟨-, c1⟩, A1, A2, A3⟩ := id A
  have hco : rt_ X (d + 1) 29 0 [some (.ref a)] [] h (fun r h' => r = some (.int (nI 0)) ∧ h' = h) := by
    refine rt_k (k := 3) (pc' := 7) (L' := [some (.ref a)]) (st' := [.ref a]) (h' := h) (fun _ => rfl) ?_
    refine rt_gf rfl c1 rfl rfl ?_
    refine rt_k (k := 1) (pc' := 14) (L' := [some (.ref a)]) (st' := [.int (nI 0)]) (h' := h) (fun _ => rfl) ?_
    exact rt_r (v := some (.int (nI 0))) rfl rfl (⟨rfl, rfl⟩)
  have hcc : rt_ X (d + 1) 29 0 [some (.retAddr 11)] [] h (fun r h' => r = some (.int (nI 0)) ∧ h' = h) := ⟨20, some (.int (nI 0)), h, rfl, rfl, rfl⟩
  have main : rt_ X (d + 2) 206 0 [some (.ref a), some (.retAddr 11), some (.int (nI 0)), none, none, none, none, none] [] h (fun r h' => r = some (.int (tB (w.take 1 = tx 11))) ∧ h' = h) := by
    by_cases hl : 1 ≤ w.length
    · have t0 := trivial
      refine rt_k (k := 4) (pc' := 6) (L' := [some (.ref a), some (.retAddr 11), some (.int (nI 0)), none, none, none, none, none]) (st' := [.ref a, .int (nI 0)]) (h' := h) (fun _ => rfl) ?_
      refine rt_cvE rfl (by decide) c1 rfl rfl rfl rfl (st_len (d := d) A) ?_
      refine rt_k (k := 1) (pc' := 10) (L' := [some (.ref a), some (.retAddr 11), some (.int (nI 0)), none, none, none, none, none]) (st' := [.retAddr 11, .int (nI w.length), .int (nI 0)]) (h' := h) (fun _ => rfl) ?_
      refine rt_cE rfl rfl cst_len11 ?_
      refine rt_sub rfl (by omega) ?_
      refine rt_ile rfl (by decide) (by omega) (fun _ => ?_) (fun z => absurd z (by omega))
      refine rt_k (k := 1) (pc' := 20) (L' := [some (.ref a), some (.retAddr 11), some (.int (nI 0)), none, none, none, none, none]) (st' := [.ref a]) (h' := h) (fun _ => rfl) ?_
      refine rt_gf rfl c1 rfl rfl ?_
      refine rt_k (k := 10) (pc' := 39) (L' := [some (.ref a), some (.retAddr 11), some (.int (nI 0)), some (.ref v), some (.retAddr 2011), some (.int (nI 0)), some (.int (nI 1)), none]) (st' := [.ref a]) (h' := h) (fun _ => rfl) ?_
      refine rt_cvE rfl (by decide) c1 rfl rfl rfl rfl hco ?_
      refine rt_k (k := 3) (pc' := 47) (L' := [some (.ref a), some (.retAddr 11), some (.int (nI 0)), some (.ref v), some (.retAddr 2011), some (.int (nI 0)), some (.int (nI 1)), some (.int (nI 0))]) (st' := [.retAddr 11, .int (nI 0)]) (h' := h) (fun _ => rfl) ?_
      refine rt_cE rfl rfl hcc ?_
      refine rt_k (k := 9) (pc' := 70) (L' := [some (.ref a), some (.retAddr 11), some (.int (nI 0)), some (.ref v), some (.retAddr 2011), some (.int (nI 0)), some (.int (nI 1)), some (.int (nI 0))]) (st' := [.int (nI 1), .int (nI 0), .retAddr 2011, .int (nI 0), .ref v]) (h' := h) (fun _ => rfl) ?_
      have hm : rt_ X (d + 1) 207 0 [some (.ref v), some (.int (nI 0)), some (.retAddr 2011), some (.int (nI 0)), some (.int (nI 1)), none, none, none] [] h (fun r h' => h' = h ∧ ((w.take 1 = tx 11 ∧ r = some (.int (-1))) ∨ (¬ w.take 1 = tx 11 ∧ ∃ j, j < 1 ∧ r = some (.int (nI j))))) := by
        refine rt_k (k := 5) (pc' := 70) (L' := [some (.ref v), some (.int (nI 0)), some (.retAddr 2011), some (.int (nI 0)), some (.int (nI 1)), some (.int (nI 0)), none, none]) (st' := []) (h' := h) (fun _ => rfl) ?_
        exact cm_11 A1 ⟨A2, A3⟩ hl 0 (Nat.zero_le _) (fun j hj => absurd hj (Nat.not_lt_zero _)) _ _
      refine rt_cH rfl rfl hm ?_
      rintro _ (⟨q1, rfl⟩ | ⟨q1, j, hj, rfl⟩)
      ·
        refine rt_k (k := 3) (pc' := 81) (L' := [some (.ref a), some (.retAddr 11), some (.int (nI 0)), some (.ref v), some (.retAddr 2011), some (.int (nI 0)), some (.int (nI 1)), some (.int (nI 0))]) (st' := [.int (nI 1)]) (h' := h) (fun _ => rfl) ?_
        exact rt_r (v := some (.int (nI 1))) rfl rfl (⟨ret1 q1, rfl⟩)
      refine rt_zge rfl (by omega) ?_
      refine rt_k (k := 1) (pc' := 81) (L' := [some (.ref a), some (.retAddr 11), some (.int (nI 0)), some (.ref v), some (.retAddr 2011), some (.int (nI 0)), some (.int (nI 1)), some (.int (nI 0))]) (st' := [.int (nI 0)]) (h' := h) (fun _ => rfl) ?_
      exact rt_r (v := some (.int (nI 0))) rfl rfl (⟨ret0 q1, rfl⟩)
    · have t0 := trivial
      have hsub : nI w.length - nI 1 < nI 0 := by
        have h1 : ∀ z : Fin 1, nI z.1 - nI 1 < nI 0 := by decide
        exact h1 ⟨w.length, by omega⟩
      have hno : ¬ w.take 1 = tx 11 := fun q => by
        have := congrArg List.length q
        rw [List.length_take] at this
        have e : (tx 11).length = 1 := rfl
        omega
      refine rt_k (k := 4) (pc' := 6) (L' := [some (.ref a), some (.retAddr 11), some (.int (nI 0)), none, none, none, none, none]) (st' := [.ref a, .int (nI 0)]) (h' := h) (fun _ => rfl) ?_
      refine rt_cvE rfl (by decide) c1 rfl rfl rfl rfl (st_len (d := d) A) ?_
      refine rt_k (k := 1) (pc' := 10) (L' := [some (.ref a), some (.retAddr 11), some (.int (nI 0)), none, none, none, none, none]) (st' := [.retAddr 11, .int (nI w.length), .int (nI 0)]) (h' := h) (fun _ => rfl) ?_
      refine rt_cE rfl rfl cst_len11 ?_
      refine rt_k (k := 1) (pc' := 14) (L' := [some (.ref a), some (.retAddr 11), some (.int (nI 0)), none, none, none, none, none]) (st' := [.int (nI w.length - nI 1), .int (nI 0)]) (h' := h) (fun _ => rfl) ?_
      refine rt_jle rfl (fun z => absurd z ((fun y => Int32.not_le.mpr hsub y))) (fun _ => ?_)
      refine rt_k (k := 1) (pc' := 18) (L' := [some (.ref a), some (.retAddr 11), some (.int (nI 0)), none, none, none, none, none]) (st' := [.int (nI 0)]) (h' := h) (fun _ => rfl) ?_
      exact rt_r (v := some (.int (nI 0))) rfl rfl (⟨ret0 hno, rfl⟩)
  refine rt_k (k := 3) (pc' := 3) (L' := [some (.ref a), some (.retAddr 11)]) (st' := [.int (nI 0), .retAddr 11, .ref a]) (h' := h) (fun _ => rfl) ?_
  refine rt_cvE rfl (by decide) c1 rfl rfl rfl rfl main ?_
  exact rt_r (v := some (.int (tB (w.take 1 = tx 11)))) rfl (rtT rfl rfl) (⟨rfl, rfl⟩)
theorem cb_12 {i : Nat} (hi : i < 1) {M pc : Nat} {L : ab_Lo} {st : List Value} {r : Nat} (hins : ab_k (tb_il M) pc = some (.baload, r)) (k : rt_ X d M (pc + 1) L (.int (by8 ((tx 12).getD i 0)) :: st) h Q) : rt_ X d M pc L (.int (nI i) :: .retAddr 2012 :: st) h Q := by
  by_cases e0 : i = 0
  · subst e0; exact rt_s1 hins rfl k
  omega
theorem cm_12 {v : Nat} {w : kW} (A : sSb h v w) (hw : w.length ≤ 400 ∧ ∀ c ∈ w, c < 256) (hl : 1 ≤ w.length) (i : Nat) (hi : i ≤ 1) (H : ∀ j, j < i → w.getD j 0 = (tx 12).getD j 0) (x6 x7 : Option Value) : rt_ X d 207 70 [some (.ref v), some (.int (nI 0)), some (.retAddr 2012), some (.int (nI 0)), some (.int (nI 1)), some (.int (nI i)), x6, x7] [] h (fun r h' => h' = h ∧ ((w.take 1 = tx 12 ∧ r = some (.int (-1))) ∨ (¬ w.take 1 = tx 12 ∧ ∃ j, j < 1 ∧ r = some (.int (nI j))))) := by
  obtain ⟨f, ⟨-, c1⟩, hf⟩ := id A
  have hx : ∀ j, (tx 12).getD j 0 < 256 := fun j => getD_lt (w := tx 12) (by decide) j
  have htk : ∀ j, j < 1 → (w.take 1).getD j 0 = w.getD j 0 := fun j hj => by rw [List.getD_eq_getElem?_getD, List.getD_eq_getElem?_getD, List.getElem?_take_of_lt hj]
  refine rt_k (k := 2) (pc' := 74) (L' := [some (.ref v), some (.int (nI 0)), some (.retAddr 2012), some (.int (nI 0)), some (.int (nI 1)), some (.int (nI i)), x6, x7]) (st' := [.int (nI 1), .int (nI i)]) (h' := h) (fun _ => rfl) ?_
  refine rt_ige rfl (by omega) (by decide) (fun z => ?_) (fun z => ?_)
  ·
    refine rt_k (k := 1) (pc' := 102) (L' := [some (.ref v), some (.int (nI 0)), some (.retAddr 2012), some (.int (nI 0)), some (.int (nI 1)), some (.int (nI i)), x6, x7]) (st' := [.int (-1)]) (h' := h) (fun _ => rfl) ?_
    exact rt_r (v := some (.int (-1))) rfl rfl (⟨rfl, Or.inl ⟨w_ext (by rw [List.length_take]; show min 1 w.length = 1; omega) (fun j hj => by rw [List.length_take] at hj; rw [htk j (by omega)]; exact H j (by omega)), rfl⟩⟩)
  refine rt_k (k := 3) (pc' := 81) (L' := [some (.ref v), some (.int (nI 0)), some (.retAddr 2012), some (.int (nI 0)), some (.int (nI 1)), some (.int (nI i)), x6, x7]) (st' := [.int (nI i), .int (nI 0), .ref v]) (h' := h) (fun _ => rfl) ?_
  refine rt_add rfl ?_
  rw [Nat.zero_add]
  refine rt_balN rfl c1 rfl (by omega) (by omega) (hf i (by omega)) ?_
  refine rt_k (k := 3) (pc' := 87) (L' := [some (.ref v), some (.int (nI 0)), some (.retAddr 2012), some (.int (nI 0)), some (.int (nI 1)), some (.int (nI i)), x6, x7]) (st' := [.int (nI i), .int (nI 0), .retAddr 2012, .int (by8 (w.getD i 0))]) (h' := h) (fun _ => rfl) ?_
  refine rt_add rfl ?_
  rw [Nat.zero_add]
  refine cb_12 (by omega) rfl ?_
  refine rt_jeq rfl (fun z2 => ?_) (fun z2 => ?_)
  rotate_left
  ·
    refine rt_k (k := 1) (pc' := 94) (L' := [some (.ref v), some (.int (nI 0)), some (.retAddr 2012), some (.int (nI 0)), some (.int (nI 1)), some (.int (nI i)), x6, x7]) (st' := [.int (nI i)]) (h' := h) (fun _ => rfl) ?_
    exact rt_r (v := some (.int (nI i))) rfl rfl (⟨rfl, Or.inr ⟨fun q => z2 (by rw [← htk i (by omega), q]), i, z, rfl⟩⟩)
  refine rt_inc (c := 1) rfl rfl ?_
  refine rt_k (k := 1) (pc' := 70) (L' := [some (.ref v), some (.int (nI 0)), some (.retAddr 2012), some (.int (nI 0)), some (.int (nI 1)), some (.int (nI (i + 1))), x6, x7]) (st' := []) (h' := h) (fun _ => rfl) ?_
  exact cm_12 A hw hl (i + 1) (by omega) (fun j hj => by
    by_cases q : j = i
    · subst q; exact by8_inj (getD_lt hw.2 _) (hx _) z2
    · exact H j (by omega)) _ _
termination_by 1 - i
theorem cs_12 {a : Nat} {w : kW} (A : sS h a w) : rt_ X (d + 3) 205 0 [some (.ref a), some (.retAddr 12)] [] h (fun r h' => r = some (.int (tB (w.take 1 = tx 12))) ∧ h' = h) := by
  obtain ⟨v, x, y, ⟨-, c1⟩, A1, A2, A3⟩ := id A
  have hco : rt_ X (d + 1) 29 0 [some (.ref a)] [] h (fun r h' => r = some (.int (nI 0)) ∧ h' = h) := by
    refine rt_k (k := 3) (pc' := 7) (L' := [some (.ref a)]) (st' := [.ref a]) (h' := h) (fun _ => rfl) ?_
    refine rt_gf rfl c1 rfl rfl ?_
    refine rt_k (k := 1) (pc' := 14) (L' := [some (.ref a)]) (st' := [.int (nI 0)]) (h' := h) (fun _ => rfl) ?_
    exact rt_r (v := some (.int (nI 0))) rfl rfl (⟨rfl, rfl⟩)
  have hcc : rt_ X (d + 1) 29 0 [some (.retAddr 12)] [] h (fun r h' => r = some (.int (nI 0)) ∧ h' = h) := ⟨20, some (.int (nI 0)), h, rfl, rfl, rfl⟩
  have main : rt_ X (d + 2) 206 0 [some (.ref a), some (.retAddr 12), some (.int (nI 0)), none, none, none, none, none] [] h (fun r h' => r = some (.int (tB (w.take 1 = tx 12))) ∧ h' = h) := by
    by_cases hl : 1 ≤ w.length
    · have t0 := trivial
      refine rt_k (k := 4) (pc' := 6) (L' := [some (.ref a), some (.retAddr 12), some (.int (nI 0)), none, none, none, none, none]) (st' := [.ref a, .int (nI 0)]) (h' := h) (fun _ => rfl) ?_
      refine rt_cvE rfl (by decide) c1 rfl rfl rfl rfl (st_len (d := d) A) ?_
      refine rt_k (k := 1) (pc' := 10) (L' := [some (.ref a), some (.retAddr 12), some (.int (nI 0)), none, none, none, none, none]) (st' := [.retAddr 12, .int (nI w.length), .int (nI 0)]) (h' := h) (fun _ => rfl) ?_
      refine rt_cE rfl rfl cst_len12 ?_
      refine rt_sub rfl (by omega) ?_
      refine rt_ile rfl (by decide) (by omega) (fun _ => ?_) (fun z => absurd z (by omega))
      refine rt_k (k := 1) (pc' := 20) (L' := [some (.ref a), some (.retAddr 12), some (.int (nI 0)), none, none, none, none, none]) (st' := [.ref a]) (h' := h) (fun _ => rfl) ?_
      refine rt_gf rfl c1 rfl rfl ?_
      refine rt_k (k := 10) (pc' := 39) (L' := [some (.ref a), some (.retAddr 12), some (.int (nI 0)), some (.ref v), some (.retAddr 2012), some (.int (nI 0)), some (.int (nI 1)), none]) (st' := [.ref a]) (h' := h) (fun _ => rfl) ?_
      refine rt_cvE rfl (by decide) c1 rfl rfl rfl rfl hco ?_
      refine rt_k (k := 3) (pc' := 47) (L' := [some (.ref a), some (.retAddr 12), some (.int (nI 0)), some (.ref v), some (.retAddr 2012), some (.int (nI 0)), some (.int (nI 1)), some (.int (nI 0))]) (st' := [.retAddr 12, .int (nI 0)]) (h' := h) (fun _ => rfl) ?_
      refine rt_cE rfl rfl hcc ?_
      refine rt_k (k := 9) (pc' := 70) (L' := [some (.ref a), some (.retAddr 12), some (.int (nI 0)), some (.ref v), some (.retAddr 2012), some (.int (nI 0)), some (.int (nI 1)), some (.int (nI 0))]) (st' := [.int (nI 1), .int (nI 0), .retAddr 2012, .int (nI 0), .ref v]) (h' := h) (fun _ => rfl) ?_
      have hm : rt_ X (d + 1) 207 0 [some (.ref v), some (.int (nI 0)), some (.retAddr 2012), some (.int (nI 0)), some (.int (nI 1)), none, none, none] [] h (fun r h' => h' = h ∧ ((w.take 1 = tx 12 ∧ r = some (.int (-1))) ∨ (¬ w.take 1 = tx 12 ∧ ∃ j, j < 1 ∧ r = some (.int (nI j))))) := by
        refine rt_k (k := 5) (pc' := 70) (L' := [some (.ref v), some (.int (nI 0)), some (.retAddr 2012), some (.int (nI 0)), some (.int (nI 1)), some (.int (nI 0)), none, none]) (st' := []) (h' := h) (fun _ => rfl) ?_
        exact cm_12 A1 ⟨A2, A3⟩ hl 0 (Nat.zero_le _) (fun j hj => absurd hj (Nat.not_lt_zero _)) _ _
      refine rt_cH rfl rfl hm ?_
      rintro _ (⟨q1, rfl⟩ | ⟨q1, j, hj, rfl⟩)
      ·
        refine rt_k (k := 3) (pc' := 81) (L' := [some (.ref a), some (.retAddr 12), some (.int (nI 0)), some (.ref v), some (.retAddr 2012), some (.int (nI 0)), some (.int (nI 1)), some (.int (nI 0))]) (st' := [.int (nI 1)]) (h' := h) (fun _ => rfl) ?_
        exact rt_r (v := some (.int (nI 1))) rfl rfl (⟨ret1 q1, rfl⟩)
      refine rt_zge rfl (by omega) ?_
      refine rt_k (k := 1) (pc' := 81) (L' := [some (.ref a), some (.retAddr 12), some (.int (nI 0)), some (.ref v), some (.retAddr 2012), some (.int (nI 0)), some (.int (nI 1)), some (.int (nI 0))]) (st' := [.int (nI 0)]) (h' := h) (fun _ => rfl) ?_
      exact rt_r (v := some (.int (nI 0))) rfl rfl (⟨ret0 q1, rfl⟩)
    · have t0 := trivial
      have hsub : nI w.length - nI 1 < nI 0 := by
        have h1 : ∀ z : Fin 1, nI z.1 - nI 1 < nI 0 := by decide
        exact h1 ⟨w.length, by omega⟩
      have hno : ¬ w.take 1 = tx 12 := fun q => by
        have := congrArg List.length q
        rw [List.length_take] at this
        have e : (tx 12).length = 1 := rfl
        omega
      refine rt_k (k := 4) (pc' := 6) (L' := [some (.ref a), some (.retAddr 12), some (.int (nI 0)), none, none, none, none, none]) (st' := [.ref a, .int (nI 0)]) (h' := h) (fun _ => rfl) ?_
      refine rt_cvE rfl (by decide) c1 rfl rfl rfl rfl (st_len (d := d) A) ?_
      refine rt_k (k := 1) (pc' := 10) (L' := [some (.ref a), some (.retAddr 12), some (.int (nI 0)), none, none, none, none, none]) (st' := [.retAddr 12, .int (nI w.length), .int (nI 0)]) (h' := h) (fun _ => rfl) ?_
      refine rt_cE rfl rfl cst_len12 ?_
      refine rt_k (k := 1) (pc' := 14) (L' := [some (.ref a), some (.retAddr 12), some (.int (nI 0)), none, none, none, none, none]) (st' := [.int (nI w.length - nI 1), .int (nI 0)]) (h' := h) (fun _ => rfl) ?_
      refine rt_jle rfl (fun z => absurd z ((fun y => Int32.not_le.mpr hsub y))) (fun _ => ?_)
      refine rt_k (k := 1) (pc' := 18) (L' := [some (.ref a), some (.retAddr 12), some (.int (nI 0)), none, none, none, none, none]) (st' := [.int (nI 0)]) (h' := h) (fun _ => rfl) ?_
      exact rt_r (v := some (.int (nI 0))) rfl rfl (⟨ret0 hno, rfl⟩)
  refine rt_k (k := 3) (pc' := 3) (L' := [some (.ref a), some (.retAddr 12)]) (st' := [.int (nI 0), .retAddr 12, .ref a]) (h' := h) (fun _ => rfl) ?_
  refine rt_cvE rfl (by decide) c1 rfl rfl rfl rfl main ?_
  exact rt_r (v := some (.int (tB (w.take 1 = tx 12)))) rfl (rtT rfl rfl) (⟨rfl, rfl⟩)
end SV

