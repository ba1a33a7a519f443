/-! THE REFERENCE, 1: what a word is. -/
section MA
variable {X : Nat × (Nat → Int32)} {d : Nat} {h : List va_E} {Q : Option Value → List va_E → Prop} {w u : kW} {a : Nat}
theorem sS.at (A : sS h a w) : ∃ v x y, h[a]? = some (.inr (17, [.ref v, .int (nI 0), .int x, .int y])) ∧ w.length ≤ 400 ∧ ∀ c ∈ w, c < 256 := by
  obtain ⟨v, x, y, c, -, c1, c2⟩ := A
  exact ⟨v, x, y, c.2, c1, c2⟩
theorem m_digit {c : Nat} (hc : c < 256) : rt_ X d 137 0 [some (.int (nI c))] [] h (fun v h' => v = some (.int (tB (dg c = true))) ∧ h' = h) := by
  refine rt_k (k := 2) (pc' := 3) (L' := [some (.int (nI c))]) (st' := [.int (nI 48), .int (nI c)]) (h' := h) (fun _ => rfl) ?_
  refine rt_ilt rfl (by omega) (by decide) (fun z => ?_) (fun z => ?_)
  ·
    refine rt_k (k := 1) (pc' := 17) (L' := [some (.int (nI c))]) (st' := [.int (nI 0)]) (h' := h) (fun _ => rfl) ?_
    exact rt_r (v := some (.int (nI 0))) rfl rfl (⟨ret0 (fun w => by have := of_decide_eq_true w; omega), rfl⟩)
  refine rt_k (k := 2) (pc' := 9) (L' := [some (.int (nI c))]) (st' := [.int (nI 57), .int (nI c)]) (h' := h) (fun _ => rfl) ?_
  refine rt_igt rfl (by omega) (by decide) (fun z2 => ?_) (fun z2 => ?_)
  ·
    refine rt_k (k := 1) (pc' := 17) (L' := [some (.int (nI c))]) (st' := [.int (nI 0)]) (h' := h) (fun _ => rfl) ?_
    exact rt_r (v := some (.int (nI 0))) rfl rfl (⟨ret0 (fun w => by have := of_decide_eq_true w; omega), rfl⟩)
  refine rt_k (k := 2) (pc' := 17) (L' := [some (.int (nI c))]) (st' := [.int (nI 1)]) (h' := h) (fun _ => rfl) ?_
  exact rt_r (v := some (.int (nI 1))) rfl rfl (⟨ret1 (decide_eq_true ⟨z, z2⟩), rfl⟩)
theorem m_letter {c : Nat} (hc : c < 256) : rt_ X d 140 0 [some (.int (nI c))] [] h (fun v h' => v = some (.int (tB (alp c = true))) ∧ h' = h) := by
  have e : alp c = true ↔ (97 ≤ c ∧ c ≤ 122) ∨ (65 ≤ c ∧ c ≤ 90) := by unfold alp; rw [decide_eq_true_eq]
  have t2 : ¬ (97 ≤ c ∧ c ≤ 122) → rt_ X d 140 12 [some (.int (nI c))] [] h (fun v h' => v = some (.int (tB (alp c = true))) ∧ h' = h) := fun w1 => by
    refine rt_k (k := 2) (pc' := 15) (L' := [some (.int (nI c))]) (st' := [.int (nI 65), .int (nI c)]) (h' := h) (fun _ => rfl) ?_
    refine rt_ilt rfl (by omega) (by decide) (fun z => ?_) (fun z => ?_)
    ·
      refine rt_k (k := 1) (pc' := 29) (L' := [some (.int (nI c))]) (st' := [.int (nI 0)]) (h' := h) (fun _ => rfl) ?_
      exact rt_r (v := some (.int (nI 0))) rfl rfl (⟨ret0 (fun w => by have := e.mp w; omega), rfl⟩)
    refine rt_k (k := 2) (pc' := 21) (L' := [some (.int (nI c))]) (st' := [.int (nI 90), .int (nI c)]) (h' := h) (fun _ => rfl) ?_
    refine rt_igt rfl (by omega) (by decide) (fun z2 => ?_) (fun z2 => ?_)
    ·
      refine rt_k (k := 1) (pc' := 29) (L' := [some (.int (nI c))]) (st' := [.int (nI 0)]) (h' := h) (fun _ => rfl) ?_
      exact rt_r (v := some (.int (nI 0))) rfl rfl (⟨ret0 (fun w => by have := e.mp w; omega), rfl⟩)
    refine rt_k (k := 2) (pc' := 29) (L' := [some (.int (nI c))]) (st' := [.int (nI 1)]) (h' := h) (fun _ => rfl) ?_
    exact rt_r (v := some (.int (nI 1))) rfl rfl (⟨ret1 (e.mpr (Or.inr ⟨z, z2⟩)), rfl⟩)
  refine rt_k (k := 2) (pc' := 3) (L' := [some (.int (nI c))]) (st' := [.int (nI 97), .int (nI c)]) (h' := h) (fun _ => rfl) ?_
  refine rt_ilt rfl (by omega) (by decide) (fun z => ?_) (fun z => ?_)
  ·
    exact t2 (by omega)
  refine rt_k (k := 2) (pc' := 9) (L' := [some (.int (nI c))]) (st' := [.int (nI 122), .int (nI c)]) (h' := h) (fun _ => rfl) ?_
  refine rt_ile rfl (by omega) (by decide) (fun z2 => ?_) (fun z2 => ?_)
  ·
    refine rt_k (k := 2) (pc' := 29) (L' := [some (.int (nI c))]) (st' := [.int (nI 1)]) (h' := h) (fun _ => rfl) ?_
    exact rt_r (v := some (.int (nI 1))) rfl rfl (⟨ret1 (e.mpr (Or.inl ⟨z, z2⟩)), rfl⟩)
  exact t2 (by omega)
theorem all_get {P : Nat → Bool} (h : ∀ i, i < w.length → P (w.getD i 0) = true) : w.all P = true := by
  rw [List.all_eq_true]
  intro c hc
  obtain ⟨i, hi⟩ := gt_mem hc
  have := h i (gt_lt hi)
  rw [List.getD_eq_getElem?_getD, hi] at this
  exact this
theorem get_all {P : Nat → Bool} (h : w.all P = true) {i : Nat} (hi : i < w.length) : P (w.getD i 0) = true := by
  rw [List.all_eq_true] at h
  rw [List.getD_eq_getElem?_getD, List.getElem?_eq_getElem hi]
  exact h _ (List.getElem_mem hi)
theorem m_nm1 (A : sS h a w) (hl : 1 ≤ w.length ∧ w.length ≤ 8) (hc : ¬ isCl w = true) (i : Nat) (hi : i ≤ w.length) (H : ∀ j, j < i → 97 ≤ w.getD j 0 ∧ w.getD j 0 ≤ 122) : rt_ X (d + 4) 134 48 [some (.ref a), some (.int (nI i))] [] h (fun v h' => v = some (.int (tB (isNm w = true))) ∧ h' = h) := by
  obtain ⟨v, x, y, c1, -, hb⟩ := A.at
  have e : isNm w = true ↔ w.all (fun c => decide (97 ≤ c ∧ c ≤ 122)) = true := by
    unfold isNm
    unfold isCl at hc
    simp only [Bool.and_eq_true, decide_eq_true_eq, Bool.not_eq_true', decide_eq_false_iff_not] at hc ⊢
    exact ⟨fun q => q.1.2, fun q => ⟨⟨hl, q⟩, hc⟩⟩
  refine rt_k (k := 2) (pc' := 50) (L' := [some (.ref a), some (.int (nI i))]) (st' := [.ref a, .int (nI i)]) (h' := h) (fun _ => rfl) ?_
  refine rt_cvE rfl (by decide) c1 rfl rfl rfl rfl (st_len A) ?_
  refine rt_ige rfl (by omega) (by omega) (fun z => ?_) (fun z => ?_)
  ·
    refine rt_k (k := 1) (pc' := 85) (L' := [some (.ref a), some (.int (nI i))]) (st' := [.int (nI 1)]) (h' := h) (fun _ => rfl) ?_
    exact rt_r (v := some (.int (nI 1))) rfl rfl (⟨ret1 (e.mpr (all_get (fun j hj => decide_eq_true (H j (by omega))))), rfl⟩)
  have b1 := getD_lt hb i
  refine rt_k (k := 2) (pc' := 58) (L' := [some (.ref a), some (.int (nI i))]) (st' := [.int (nI i), .ref a]) (h' := h) (fun _ => rfl) ?_
  refine rt_cvE rfl (by decide) c1 rfl rfl rfl rfl (st_char A z) ?_
  refine rt_k (k := 1) (pc' := 63) (L' := [some (.ref a), some (.int (nI i))]) (st' := [.int (nI 97), .int (nI (w.getD i 0))]) (h' := h) (fun _ => rfl) ?_
  refine rt_ilt rfl (by omega) (by decide) (fun z1 => ?_) (fun z1 => ?_)
  ·
    refine rt_k (k := 1) (pc' := 77) (L' := [some (.ref a), some (.int (nI i))]) (st' := [.int (nI 0)]) (h' := h) (fun _ => rfl) ?_
    exact rt_r (v := some (.int (nI 0))) rfl rfl (⟨ret0 (fun q => by have := of_decide_eq_true (get_all (e.mp q) z); omega), rfl⟩)
  refine rt_k (k := 2) (pc' := 68) (L' := [some (.ref a), some (.int (nI i))]) (st' := [.int (nI i), .ref a]) (h' := h) (fun _ => rfl) ?_
  refine rt_cvE rfl (by decide) c1 rfl rfl rfl rfl (st_char A z) ?_
  refine rt_k (k := 1) (pc' := 73) (L' := [some (.ref a), some (.int (nI i))]) (st' := [.int (nI 122), .int (nI (w.getD i 0))]) (h' := h) (fun _ => rfl) ?_
  refine rt_ile rfl (by omega) (by decide) (fun z2 => ?_) (fun z2 => ?_)
  rotate_left
  ·
    refine rt_k (k := 1) (pc' := 77) (L' := [some (.ref a), some (.int (nI i))]) (st' := [.int (nI 0)]) (h' := h) (fun _ => rfl) ?_
    exact rt_r (v := some (.int (nI 0))) rfl rfl (⟨ret0 (fun q => by have := of_decide_eq_true (get_all (e.mp q) z); omega), rfl⟩)
  refine rt_inc (c := 1) rfl rfl ?_
  refine rt_k (k := 1) (pc' := 48) (L' := [some (.ref a), some (.int (nI (i + 1)))]) (st' := []) (h' := h) (fun _ => rfl) ?_
  exact m_nm1 A hl hc (i + 1) z (fun j hj => by
    by_cases q : j = i
    · subst q; exact ⟨z1, z2⟩
    · exact H j (by omega))
termination_by w.length - i
theorem m_isName (A : sS h a w) : rt_ X (d + 4) 134 0 [some (.ref a), none] [] h (fun v h' => v = some (.int (tB (isNm w = true))) ∧ h' = h) := by
  obtain ⟨v, x, y, c1, hl4, hb⟩ := A.at
  have e : isNm w = true → (1 ≤ w.length ∧ w.length ≤ 8) ∧ ¬ (w = tx 0 ∨ w = tx 1 ∨ w = tx 2) := fun q => by
    unfold isNm at q
    simp only [Bool.and_eq_true, decide_eq_true_eq, Bool.not_eq_true', decide_eq_false_iff_not] at q
    exact ⟨q.1.1, q.2⟩
  refine rt_k (k := 1) (pc' := 1) (L' := [some (.ref a), none]) (st' := [.ref a]) (h' := h) (fun _ => rfl) ?_
  refine rt_cvE rfl (by decide) c1 rfl rfl rfl rfl (st_len A) ?_
  refine rt_k (k := 1) (pc' := 5) (L' := [some (.ref a), none]) (st' := [.int (nI 1), .int (nI w.length)]) (h' := h) (fun _ => rfl) ?_
  refine rt_ilt rfl (by omega) (by decide) (fun z1 => ?_) (fun z1 => ?_)
  ·
    refine rt_k (k := 1) (pc' := 45) (L' := [some (.ref a), none]) (st' := [.int (nI 0)]) (h' := h) (fun _ => rfl) ?_
    exact rt_r (v := some (.int (nI 0))) rfl rfl (⟨ret0 (fun q => by have := (e q).1; omega), rfl⟩)
  refine rt_k (k := 1) (pc' := 9) (L' := [some (.ref a), none]) (st' := [.ref a]) (h' := h) (fun _ => rfl) ?_
  refine rt_cvE rfl (by decide) c1 rfl rfl rfl rfl (st_len A) ?_
  refine rt_k (k := 1) (pc' := 14) (L' := [some (.ref a), none]) (st' := [.int (nI 8), .int (nI w.length)]) (h' := h) (fun _ => rfl) ?_
  refine rt_igt rfl (by omega) (by decide) (fun z2 => ?_) (fun z2 => ?_)
  ·
    refine rt_k (k := 1) (pc' := 45) (L' := [some (.ref a), none]) (st' := [.int (nI 0)]) (h' := h) (fun _ => rfl) ?_
    exact rt_r (v := some (.int (nI 0))) rfl rfl (⟨ret0 (fun q => by have := (e q).1; omega), rfl⟩)
  refine rt_k (k := 2) (pc' := 20) (L' := [some (.ref a), none]) (st' := [.retAddr 0, .ref a]) (h' := h) (fun _ => rfl) ?_
  refine rt_cvE rfl (by decide) c1 rfl rfl rfl rfl (ce_0 A) ?_
  refine rt_pn rfl (fun y0 => ?_) (fun y0 => ?_)
  ·
    refine rt_k (k := 1) (pc' := 45) (L' := [some (.ref a), none]) (st' := [.int (nI 0)]) (h' := h) (fun _ => rfl) ?_
    exact rt_r (v := some (.int (nI 0))) rfl rfl (⟨ret0 (fun q => (e q).2 (Or.inl y0)), rfl⟩)
  refine rt_k (k := 2) (pc' := 29) (L' := [some (.ref a), none]) (st' := [.retAddr 1, .ref a]) (h' := h) (fun _ => rfl) ?_
  refine rt_cvE rfl (by decide) c1 rfl rfl rfl rfl (ce_1 A) ?_
  refine rt_pn rfl (fun y1 => ?_) (fun y1 => ?_)
  ·
    refine rt_k (k := 1) (pc' := 45) (L' := [some (.ref a), none]) (st' := [.int (nI 0)]) (h' := h) (fun _ => rfl) ?_
    exact rt_r (v := some (.int (nI 0))) rfl rfl (⟨ret0 (fun q => (e q).2 (Or.inr (Or.inl y1))), rfl⟩)
  refine rt_k (k := 2) (pc' := 38) (L' := [some (.ref a), none]) (st' := [.retAddr 2, .ref a]) (h' := h) (fun _ => rfl) ?_
  refine rt_cvE rfl (by decide) c1 rfl rfl rfl rfl (ce_2 A) ?_
  refine rt_pe rfl (fun y2 => ?_) (fun y2 => ?_)
  rotate_left
  ·
    refine rt_k (k := 1) (pc' := 45) (L' := [some (.ref a), none]) (st' := [.int (nI 0)]) (h' := h) (fun _ => rfl) ?_
    exact rt_r (v := some (.int (nI 0))) rfl rfl (⟨ret0 (fun q => (e q).2 (Or.inr (Or.inr y2))), rfl⟩)
  refine rt_k (k := 2) (pc' := 48) (L' := [some (.ref a), some (.int (nI 0))]) (st' := []) (h' := h) (fun _ => rfl) ?_
  refine m_nm1 A ⟨z1, z2⟩ (fun q => ?_) 0 (Nat.zero_le _) (fun j hj => absurd hj (Nat.not_lt_zero _))
  rcases of_decide_eq_true q with q | q | q
  · exact y0 q
  · exact y1 q
  · exact y2 q
theorem m_isName0 : rt_ X (d + 4) 134 0 [some (.retAddr 5), none] [] h (fun v h' => v = some (.int (tB (isNm [] = true))) ∧ h' = h) := ⟨60, some (.int (nI 0)), h, rfl, ret0 (by decide), rfl⟩
theorem m_pt1 (A : sS h a w) (hl : 1 ≤ w.length ∧ w.length ≤ 20) (i : Nat) (hi : i ≤ w.length) (H : ∀ j, j < i → (mkb (w.getD j 0) || decide (w.getD j 0 = 46 ∨ w.getD j 0 = 47)) = true) (x2 : Option Value) : rt_ X (d + 4) 142 21 [some (.ref a), some (.int (nI i)), x2] [] h (fun v h' => v = some (.int (tB (isPt w = true))) ∧ h' = h) := by
  obtain ⟨v, x, y, c1, -, hb⟩ := A.at
  have e : isPt w = true ↔ w.all (fun c => mkb c || decide (c = 46 ∨ c = 47)) = true := by
    unfold isPt
    rw [Bool.and_eq_true, decide_eq_true_eq]
    exact ⟨fun q => q.2, fun q => ⟨hl, q⟩⟩
  refine rt_k (k := 2) (pc' := 23) (L' := [some (.ref a), some (.int (nI i)), x2]) (st' := [.ref a, .int (nI i)]) (h' := h) (fun _ => rfl) ?_
  refine rt_cvE rfl (by decide) c1 rfl rfl rfl rfl (st_len A) ?_
  refine rt_ige rfl (by omega) (by omega) (fun z => ?_) (fun z => ?_)
  ·
    refine rt_k (k := 1) (pc' := 76) (L' := [some (.ref a), some (.int (nI i)), x2]) (st' := [.int (nI 1)]) (h' := h) (fun _ => rfl) ?_
    exact rt_r (v := some (.int (nI 1))) rfl rfl (⟨ret1 (e.mpr (all_get (fun j hj => H j (by omega)))), rfl⟩)
  have b1 := getD_lt hb i
  have mk : (mkb (w.getD i 0) || decide (w.getD i 0 = 46 ∨ w.getD i 0 = 47)) = true ↔ dg (w.getD i 0) = true ∨ alp (w.getD i 0) = true ∨ w.getD i 0 = 46 ∨ w.getD i 0 = 47 ∨ w.getD i 0 = 45 := by
    unfold mkb
    simp only [Bool.or_eq_true, decide_eq_true_eq]
    constructor
    · rintro (((q | q) | q) | (q | q))
      · exact Or.inl q
      · exact Or.inr (Or.inl q)
      · exact Or.inr (Or.inr (Or.inr (Or.inr q)))
      · exact Or.inr (Or.inr (Or.inl q))
      · exact Or.inr (Or.inr (Or.inr (Or.inl q)))
    · rintro (q | q | q | q | q)
      · exact Or.inl (Or.inl (Or.inl q))
      · exact Or.inl (Or.inl (Or.inr q))
      · exact Or.inr (Or.inl q)
      · exact Or.inr (Or.inr q)
      · exact Or.inl (Or.inr q)
  have nxt : (mkb (w.getD i 0) || decide (w.getD i 0 = 46 ∨ w.getD i 0 = 47)) = true → rt_ X (d + 4) 142 69 [some (.ref a), some (.int (nI i)), some (.int (nI (w.getD i 0)))] [] h (fun v h' => v = some (.int (tB (isPt w = true))) ∧ h' = h) := fun q => by
    refine rt_inc (c := 1) rfl rfl ?_
    refine rt_k (k := 1) (pc' := 21) (L' := [some (.ref a), some (.int (nI (i + 1))), some (.int (nI (w.getD i 0)))]) (st' := []) (h' := h) (fun _ => rfl) ?_
    exact m_pt1 A hl (i + 1) z (fun j hj => by
      by_cases q2 : j = i
      · subst q2; exact q
      · exact H j (by omega)) _
  refine rt_k (k := 2) (pc' := 31) (L' := [some (.ref a), some (.int (nI i)), x2]) (st' := [.int (nI i), .ref a]) (h' := h) (fun _ => rfl) ?_
  refine rt_cvE rfl (by decide) c1 rfl rfl rfl rfl (st_char A z) ?_
  refine rt_k (k := 2) (pc' := 36) (L' := [some (.ref a), some (.int (nI i)), some (.int (nI (w.getD i 0)))]) (st' := [.int (nI (w.getD i 0))]) (h' := h) (fun _ => by cases x2 <;> rfl) ?_
  refine rt_cE rfl rfl (m_digit b1) ?_
  refine rt_pn rfl (fun z1 => ?_) (fun z1 => ?_)
  ·
    exact nxt (mk.mpr (Or.inl z1))
  refine rt_k (k := 1) (pc' := 43) (L' := [some (.ref a), some (.int (nI i)), some (.int (nI (w.getD i 0)))]) (st' := [.int (nI (w.getD i 0))]) (h' := h) (fun _ => rfl) ?_
  refine rt_cE rfl rfl (m_letter b1) ?_
  refine rt_pn rfl (fun z2 => ?_) (fun z2 => ?_)
  ·
    exact nxt (mk.mpr (Or.inr (Or.inl z2)))
  refine rt_k (k := 2) (pc' := 52) (L' := [some (.ref a), some (.int (nI i)), some (.int (nI (w.getD i 0)))]) (st' := [.int (nI 46), .int (nI (w.getD i 0))]) (h' := h) (fun _ => rfl) ?_
  refine rt_ieq rfl (by omega) (by decide) (fun z3 => ?_) (fun z3 => ?_)
  ·
    exact nxt (mk.mpr (Or.inr (Or.inr (Or.inl z3))))
  refine rt_k (k := 2) (pc' := 58) (L' := [some (.ref a), some (.int (nI i)), some (.int (nI (w.getD i 0)))]) (st' := [.int (nI 47), .int (nI (w.getD i 0))]) (h' := h) (fun _ => rfl) ?_
  refine rt_ieq rfl (by omega) (by decide) (fun z4 => ?_) (fun z4 => ?_)
  ·
    exact nxt (mk.mpr (Or.inr (Or.inr (Or.inr (Or.inl z4)))))
  refine rt_k (k := 2) (pc' := 64) (L' := [some (.ref a), some (.int (nI i)), some (.int (nI (w.getD i 0)))]) (st' := [.int (nI 45), .int (nI (w.getD i 0))]) (h' := h) (fun _ => rfl) ?_
  refine rt_ieq rfl (by omega) (by decide) (fun z5 => ?_) (fun z5 => ?_)
  ·
    exact nxt (mk.mpr (Or.inr (Or.inr (Or.inr (Or.inr z5)))))
  refine rt_k (k := 1) (pc' := 68) (L' := [some (.ref a), some (.int (nI i)), some (.int (nI (w.getD i 0)))]) (st' := [.int (nI 0)]) (h' := h) (fun _ => rfl) ?_
  exact rt_r (v := some (.int (nI 0))) rfl rfl (⟨ret0 (fun q => by rcases mk.mp (get_all (e.mp q) z) with y | y | y | y | y; exact z1 y; exact z2 y; exact z3 y; exact z4 y; exact z5 y), rfl⟩)
termination_by w.length - i
theorem m_isPath (A : sS h a w) : rt_ X (d + 4) 142 0 [some (.ref a), none, none] [] h (fun v h' => v = some (.int (tB (isPt w = true))) ∧ h' = h) := by
  obtain ⟨v, x, y, c1, hl4, hb⟩ := A.at
  have e : isPt w = true → (1 ≤ w.length ∧ w.length ≤ 20) := fun q => by
    unfold isPt at q
    rw [Bool.and_eq_true, decide_eq_true_eq] at q
    exact q.1
  refine rt_k (k := 1) (pc' := 1) (L' := [some (.ref a), none, none]) (st' := [.ref a]) (h' := h) (fun _ => rfl) ?_
  refine rt_cvE rfl (by decide) c1 rfl rfl rfl rfl (st_len A) ?_
  refine rt_k (k := 1) (pc' := 5) (L' := [some (.ref a), none, none]) (st' := [.int (nI 1), .int (nI w.length)]) (h' := h) (fun _ => rfl) ?_
  refine rt_ilt rfl (by omega) (by decide) (fun z1 => ?_) (fun z1 => ?_)
  ·
    refine rt_k (k := 1) (pc' := 18) (L' := [some (.ref a), none, none]) (st' := [.int (nI 0)]) (h' := h) (fun _ => rfl) ?_
    exact rt_r (v := some (.int (nI 0))) rfl rfl (⟨ret0 (fun q => by have := e q; omega), rfl⟩)
  refine rt_k (k := 1) (pc' := 9) (L' := [some (.ref a), none, none]) (st' := [.ref a]) (h' := h) (fun _ => rfl) ?_
  refine rt_cvE rfl (by decide) c1 rfl rfl rfl rfl (st_len A) ?_
  refine rt_k (k := 1) (pc' := 14) (L' := [some (.ref a), none, none]) (st' := [.int (nI 20), .int (nI w.length)]) (h' := h) (fun _ => rfl) ?_
  refine rt_ile rfl (by omega) (by decide) (fun z2 => ?_) (fun z2 => ?_)
  rotate_left
  ·
    refine rt_k (k := 1) (pc' := 18) (L' := [some (.ref a), none, none]) (st' := [.int (nI 0)]) (h' := h) (fun _ => rfl) ?_
    exact rt_r (v := some (.int (nI 0))) rfl rfl (⟨ret0 (fun q => by have := e q; omega), rfl⟩)
  refine rt_k (k := 2) (pc' := 21) (L' := [some (.ref a), some (.int (nI 0)), none]) (st' := []) (h' := h) (fun _ => rfl) ?_
  exact m_pt1 A ⟨z1, z2⟩ 0 (Nat.zero_le _) (fun j hj => absurd hj (Nat.not_lt_zero _)) _
theorem m_isPath0 : rt_ X (d + 4) 142 0 [some (.retAddr 5), none, none] [] h (fun v h' => v = some (.int (tB (isPt [] = true))) ∧ h' = h) := ⟨60, some (.int (nI 0)), h, rfl, ret0 (by decide), rfl⟩
/-- digits, one at least -/
def dgs (w : kW) : Prop := w.all dg = true ∧ 0 < w.length
theorem m_dg1 (A : sS h a w) (i : Nat) (hi : i ≤ w.length) (H : ∀ j, j < i → dg (w.getD j 0) = true) : rt_ X (d + 4) 139 2 [some (.ref a), some (.int (nI i))] [] h (fun v h' => v = some (.int (tB (dgs w))) ∧ h' = h) := by
  obtain ⟨v, x, y, c1, hl4, hb⟩ := A.at
  refine rt_k (k := 2) (pc' := 4) (L' := [some (.ref a), some (.int (nI i))]) (st' := [.ref a, .int (nI i)]) (h' := h) (fun _ => rfl) ?_
  refine rt_cvE rfl (by decide) c1 rfl rfl rfl rfl (st_len A) ?_
  refine rt_ige rfl (by omega) (by omega) (fun z => ?_) (fun z => ?_)
  ·
    have ea := all_get (P := dg) (w := w) (fun j hj => H j (by omega))
    refine rt_k (k := 1) (pc' := 30) (L' := [some (.ref a), some (.int (nI i))]) (st' := [.ref a]) (h' := h) (fun _ => rfl) ?_
    refine rt_cvE rfl (by decide) c1 rfl rfl rfl rfl (st_len A) ?_
    refine rt_zle rfl (by omega) (fun z2 => ?_) (fun z2 => ?_)
    ·
      refine rt_k (k := 1) (pc' := 41) (L' := [some (.ref a), some (.int (nI i))]) (st' := [.int (nI 0)]) (h' := h) (fun _ => rfl) ?_
      exact rt_r (v := some (.int (nI 0))) rfl rfl (⟨ret0 (fun q => by have := q.2; omega), rfl⟩)
    refine rt_k (k := 2) (pc' := 41) (L' := [some (.ref a), some (.int (nI i))]) (st' := [.int (nI 1)]) (h' := h) (fun _ => rfl) ?_
    exact rt_r (v := some (.int (nI 1))) rfl rfl (⟨ret1 ⟨ea, z2⟩, rfl⟩)
  have b1 := getD_lt hb i
  refine rt_k (k := 2) (pc' := 12) (L' := [some (.ref a), some (.int (nI i))]) (st' := [.int (nI i), .ref a]) (h' := h) (fun _ => rfl) ?_
  refine rt_cvE rfl (by decide) c1 rfl rfl rfl rfl (st_char A z) ?_
  refine rt_cE rfl rfl (m_digit b1) ?_
  refine rt_pn rfl (fun z1 => ?_) (fun z1 => ?_)
  rotate_left
  ·
    refine rt_k (k := 1) (pc' := 22) (L' := [some (.ref a), some (.int (nI i))]) (st' := [.int (nI 0)]) (h' := h) (fun _ => rfl) ?_
    exact rt_r (v := some (.int (nI 0))) rfl rfl (⟨ret0 (fun q => z1 (get_all q.1 z)), rfl⟩)
  refine rt_inc (c := 1) rfl rfl ?_
  refine rt_k (k := 1) (pc' := 2) (L' := [some (.ref a), some (.int (nI (i + 1)))]) (st' := []) (h' := h) (fun _ => rfl) ?_
  exact m_dg1 A (i + 1) z (fun j hj => by
    by_cases q : j = i
    · subst q; exact z1
    · exact H j (by omega))
termination_by w.length - i
theorem m_digits (A : sS h a w) : rt_ X (d + 4) 139 0 [some (.ref a), none] [] h (fun v h' => v = some (.int (tB (dgs w))) ∧ h' = h) := by
  refine rt_k (k := 2) (pc' := 2) (L' := [some (.ref a), some (.int (nI 0))]) (st' := []) (h' := h) (fun _ => rfl) ?_
  exact m_dg1 A 0 (Nat.zero_le _) (fun j hj => absurd hj (Nat.not_lt_zero _))
theorem m_digits0 : rt_ X (d + 4) 139 0 [some (.retAddr 5), none] [] h (fun v h' => v = some (.int (tB (dgs []))) ∧ h' = h) := ⟨60, some (.int (nI 0)), h, rfl, ret0 (fun q => by have := q.2; simp at this), rfl⟩
/-- the number that digits are, -1 if they are none -/
def nmN (m : Nat) (w : kW) : Int32 := if w.all dg = true ∧ okN m w = true then nI (dv w) else -1
theorem m_nu1 (A : sS h a w) (hd : w.all dg = true) (hl : w.length ≤ 9) (m : Int32) (i : Nat) (hi : i ≤ w.length) : rt_ X (d + 4) 138 39 [some (.ref a), some (.int m), some (.int (nI (dv (w.take i)))), some (.int (nI i))] [] h (fun v h' => v = some (.int (nI (dv w))) ∧ h' = h) := by
  obtain ⟨v, x, y, c1, hl4, hb⟩ := A.at
  refine rt_k (k := 2) (pc' := 41) (L' := [some (.ref a), some (.int m), some (.int (nI (dv (w.take i)))), some (.int (nI i))]) (st' := [.ref a, .int (nI i)]) (h' := h) (fun _ => rfl) ?_
  refine rt_cvE rfl (by decide) c1 rfl rfl rfl rfl (st_len A) ?_
  refine rt_ige rfl (by omega) (by omega) (fun z => ?_) (fun z => ?_)
  ·
    refine rt_k (k := 1) (pc' := 68) (L' := [some (.ref a), some (.int m), some (.int (nI (dv (w.take i)))), some (.int (nI i))]) (st' := [.int (nI (dv (w.take i)))]) (h' := h) (fun _ => rfl) ?_
    exact rt_r (v := some (.int (nI (dv (w.take i))))) rfl rfl (⟨by rw [List.take_of_length_le z], rfl⟩)
  have b1 := getD_lt hb i
  have hdi := of_decide_eq_true (get_all hd z)
  have e : 10 * dv (w.take i) + w.getD i 0 - 48 = dv (w.take (i + 1)) := by
    have hg : w[i]? = some (w.getD i 0) := by rw [List.getD_eq_getElem?_getD, List.getElem?_eq_getElem z]; rfl
    rw [take_sn hg, dv_sn]; omega
  refine rt_k (k := 2) (pc' := 50) (L' := [some (.ref a), some (.int m), some (.int (nI (dv (w.take i)))), some (.int (nI i))]) (st' := [.int (nI (dv (w.take i))), .int (nI 10)]) (h' := h) (fun _ => rfl) ?_
  refine rt_mul rfl ?_
  refine rt_k (k := 2) (pc' := 53) (L' := [some (.ref a), some (.int m), some (.int (nI (dv (w.take i)))), some (.int (nI i))]) (st' := [.int (nI i), .ref a, .int (nI (10 * (dv (w.take i))))]) (h' := h) (fun _ => rfl) ?_
  refine rt_cvE rfl (by decide) c1 rfl rfl rfl rfl (st_char A z) ?_
  refine rt_add rfl ?_
  refine rt_k (k := 1) (pc' := 59) (L' := [some (.ref a), some (.int m), some (.int (nI (dv (w.take i)))), some (.int (nI i))]) (st' := [.int (nI 48), .int (nI ((10 * (dv (w.take i))) + (w.getD i 0)))]) (h' := h) (fun _ => rfl) ?_
  refine rt_sub rfl (by omega) ?_
  rw [e]
  refine rt_k (k := 1) (pc' := 61) (L' := [some (.ref a), some (.int m), some (.int (nI (dv (w.take (i + 1))))), some (.int (nI i))]) (st' := []) (h' := h) (fun _ => rfl) ?_
  refine rt_inc (c := 1) rfl rfl ?_
  refine rt_k (k := 1) (pc' := 39) (L' := [some (.ref a), some (.int m), some (.int (nI (dv (w.take (i + 1))))), some (.int (nI (i + 1)))]) (st' := []) (h' := h) (fun _ => rfl) ?_
  exact m_nu1 A hd hl m (i + 1) z
termination_by w.length - i
theorem m_number (A : sS h a w) {m : Nat} (hm : m ≤ 9) : rt_ X (d + 5) 138 0 [some (.ref a), some (.int (nI m)), none, none] [] h (fun v h' => v = some (.int (nmN m w)) ∧ h' = h) := by
  obtain ⟨v, x, y, c1, hl4, hb⟩ := A.at
  have ok : okN m w = true ↔ (1 ≤ w.length ∧ w.length ≤ m) ∧ (w.length = 1 ∨ ¬ w.getD 0 0 = 48) := by
    unfold okN
    simp only [Bool.and_eq_true, Bool.or_eq_true, decide_eq_true_eq, Bool.not_eq_true', decide_eq_false_iff_not]
  have good : w.all dg = true → okN m w = true → rt_ X (d + 5) 138 35 [some (.ref a), some (.int (nI m)), none, none] [] h (fun v h' => v = some (.int (nmN m w)) ∧ h' = h) := fun q1 q2 => by
    unfold nmN
    rw [if_pos ⟨q1, q2⟩]
    refine rt_k (k := 4) (pc' := 39) (L' := [some (.ref a), some (.int (nI m)), some (.int (nI (dv (w.take 0)))), some (.int (nI 0))]) (st' := []) (h' := h) (fun _ => rfl) ?_
    exact m_nu1 A q1 (by have := (ok.mp q2).1; omega) _ 0 (Nat.zero_le _)
  have bad : ¬ (w.all dg = true ∧ okN m w = true) → rt_ X (d + 5) 138 33 [some (.ref a), some (.int (nI m)), none, none] [] h (fun v h' => v = some (.int (nmN m w)) ∧ h' = h) := fun q => by
    unfold nmN
    rw [if_neg q]
    refine rt_n rfl ?_
    exact rt_r (v := some (.int (-1))) rfl rfl ⟨rfl, rfl⟩
  refine rt_k (k := 1) (pc' := 1) (L' := [some (.ref a), some (.int (nI m)), none, none]) (st' := [.ref a]) (h' := h) (fun _ => rfl) ?_
  refine rt_cE rfl rfl (m_digits A) ?_
  refine rt_pe rfl (fun z => ?_) (fun z => ?_)
  ·
    exact bad (fun q => z ⟨q.1, by have := (ok.mp q.2).1; omega⟩)
  refine rt_k (k := 1) (pc' := 8) (L' := [some (.ref a), some (.int (nI m)), none, none]) (st' := [.ref a]) (h' := h) (fun _ => rfl) ?_
  refine rt_cvE rfl (by decide) c1 rfl rfl rfl rfl (st_len A) ?_
  refine rt_k (k := 1) (pc' := 12) (L' := [some (.ref a), some (.int (nI m)), none, none]) (st' := [.int (nI m), .int (nI w.length)]) (h' := h) (fun _ => rfl) ?_
  refine rt_igt rfl (by omega) (by omega) (fun z1 => ?_) (fun z1 => ?_)
  ·
    exact bad (fun q => by have := (ok.mp q.2).1; omega)
  have hz := z.2
  refine rt_k (k := 1) (pc' := 16) (L' := [some (.ref a), some (.int (nI m)), none, none]) (st' := [.ref a]) (h' := h) (fun _ => rfl) ?_
  refine rt_cvE rfl (by decide) c1 rfl rfl rfl rfl (st_len A) ?_
  refine rt_k (k := 1) (pc' := 20) (L' := [some (.ref a), some (.int (nI m)), none, none]) (st' := [.int (nI 1), .int (nI w.length)]) (h' := h) (fun _ => rfl) ?_
  refine rt_ile rfl (by omega) (by decide) (fun z2 => ?_) (fun z2 => ?_)
  ·
    exact good z.1 (ok.mpr ⟨⟨by omega, z1⟩, Or.inl (by omega)⟩)
  have b1 := getD_lt hb 0
  refine rt_k (k := 2) (pc' := 25) (L' := [some (.ref a), some (.int (nI m)), none, none]) (st' := [.int (nI 0), .ref a]) (h' := h) (fun _ => rfl) ?_
  refine rt_cvE rfl (by decide) c1 rfl rfl rfl rfl (st_char A (i := 0) z.2) ?_
  refine rt_k (k := 1) (pc' := 30) (L' := [some (.ref a), some (.int (nI m)), none, none]) (st' := [.int (nI 48), .int (nI (w.getD 0 0))]) (h' := h) (fun _ => rfl) ?_
  refine rt_ine rfl (by omega) (by decide) (fun z3 => ?_) (fun z3 => ?_)
  ·
    exact good z.1 (ok.mpr ⟨⟨by omega, z1⟩, Or.inr z3⟩)
  exact bad (fun q => by rcases (ok.mp q.2).2 with y | y; omega; exact y z3)
theorem m_number0 {m : Nat} : rt_ X (d + 5) 138 0 [some (.retAddr 5), some (.int (nI m)), none, none] [] h (fun v h' => v = some (.int (nmN m [])) ∧ h' = h) := by
  unfold nmN
  rw [if_neg (fun q => by have := q.2; unfold okN at this; simp at this)]
  exact ⟨60, some (.int (-1)), h, rfl, rfl, rfl⟩
end MA

