/-! THE LAW, 2: its loop, from a fresh keeper and a fresh reference. -/
theorem zz_c (k : Nat) (h : 17 < k ∧ (k < 23 ∨ 35 < k)) : zz k := h
set_option maxRecDepth 8192 in
theorem bs_k : kKp hp_0 [] [] 0 [] [[]] 0 [] := by
  refine ⟨by decide, rfl, ⟨⟨rfl, ⟨_, rfl, fun j hj => absurd hj (Nat.not_lt_zero _)⟩, Nat.zero_le _, fun c hc => by cases hc⟩, 0, 0, 0, rfl, Nat.zero_le _⟩, ⟨_, rfl, rfl, Nat.zero_le _, Nat.zero_le _, fun i r hr => by simp at hr⟩, ⟨_, _, rfl, rfl, rfl, Nat.zero_le _, by decide, fun i e he => by simp at he⟩, ⟨False, ⟨0, 0, 0, 0, 0, 0, _, _, _, _, ?_, rfl, rfl, rfl, rfl, Or.inl rfl, Or.inl rfl⟩, fun q => absurd q id⟩, ⟨_, ⟨_, _, rfl, rfl, rfl, rfl, Nat.zero_le _, fun i e he => by simp at he⟩, by decide, by decide, Nat.zero_le _, fun i g hg => ?_⟩⟩
  · rw [← tF0 id]; rfl
  · match i, hg with
    | 0, hg =>
      cases hg
      exact ⟨18, rfl, 20, 21, _, _, ⟨by unfold zz; decide, rfl⟩, ⟨by unfold zz; decide, rfl⟩, ⟨by unfold zz; decide, rfl⟩, Nat.zero_le _, fun i e he => by simp at he⟩
    | i + 1, hg => simp at hg
set_option maxRecDepth 8192 in
theorem bs_m : mKp hp_0 (fun _ => 0) [] [] 0 [] [[]] 0 [] := by
  refine ⟨by decide, ⟨0, 0, 0, 0, 0, rfl, ⟨_, rfl⟩, ⟨_, rfl⟩, ⟨_, rfl⟩, _, rfl, Or.inl rfl⟩, ⟨⟨_, rfl, fun j hj => absurd hj (Nat.not_lt_zero _)⟩, Nat.zero_le _, fun c hc => by cases hc⟩, ⟨_, rfl, Nat.zero_le _, fun i r hr => by simp at hr⟩, ⟨_, rfl, Nat.zero_le _, fun i r hr => by simp at hr⟩, ⟨_, _, rfl, rfl, Nat.zero_le _, fun i e he => by simp at he⟩, ⟨_, rfl, by decide, by decide, fun i g hg => ?_⟩, ⟨_, _, rfl, rfl, Nat.zero_le _, fun i e he => by simp at he⟩⟩
  match i, hg with
  | 0, hg =>
    cases hg
    exact ⟨36, rfl, 37, 38, _, _, ⟨by unfold zz; decide, rfl⟩, ⟨by unfold zz; decide, rfl⟩, ⟨by unfold zz; decide, rfl⟩, Nat.zero_le _, fun i e he => by simp at he⟩
  | i + 1, hg => simp at hg
theorem bs_i : inv [] [] 0 [] [[]] := ⟨⟨List.Pairwise.nil, Nat.zero_le _, fun r hr => by cases hr⟩, List.Perm.refl _, Nat.zero_le _, fun m => Nat.zero_le _, (fun r hr => by cases hr), (fun r hr => by cases hr), (fun e he => by cases he), List.Pairwise.nil, ⟨fun _ => (0, [], ((0, 0, 0), []), [], [], []), (fun r hr => by cases hr), (fun g hg e he => by rw [List.mem_singleton.mp hg] at he; cases he)⟩, fun g hg => ⟨[], by rw [List.mem_singleton.mp hg]; rfl, List.Pairwise.nil, Nat.zero_le _, fun r hr => by cases hr⟩, Nat.zero_le _⟩
theorem bs_0 : both hp_0 0 := ⟨fun _ => 0, [], [], [], 0, [], [[]], 0, [], bs_k, bs_m, bs_i, (fun e he => by cases he), Nat.le_refl _, Nat.le_refl _, by decide +kernel, by decide +kernel⟩
theorem both.up {h : List va_E} {m : Nat} (B : both h m) : both h (m + 1) := by
  obtain ⟨ad, T, I, J, nx, D, K, made, st, CK, CM, IV, sb, n1, n2, r1, r2⟩ := B
  exact ⟨ad, T, I, J, nx, D, K, made, st, CK, CM, IV, sb, by omega, by omega, by omega, by omega⟩
section LD
variable {X : Nat × (Nat → Int32)}
set_option maxRecDepth 8192 in
theorem lw_lp (hX : X.1 ≤ 3072) (m : Nat) (hm : 6 * m ≤ 3072) (h : List va_E) (B : both h m) : rt_ X 1000 208 18 [some (.retAddr 1000), some (.ref 0), some (.ref 23), some (.int (nI (6 * m)))] [] h lp_Q := by
  refine rt_k (k := 2) (pc' := 20) (L' := [some (.retAddr 1000), some (.ref 0), some (.ref 23), some (.int (nI (6 * m)))]) (st' := [.retAddr 1000, .int (nI (6 * m))]) (h' := h) (fun _ => rfl) ?_
  refine rt_sln rfl ?_
  refine rt_k (k := 2) (pc' := 24) (L' := [some (.retAddr 1000), some (.ref 0), some (.ref 23), some (.int (nI (6 * m)))]) (st' := [.int ((nI X.1) - (nI 6)), .int (nI (6 * m))]) (h' := h) (fun _ => rfl) ?_
  refine rt_jgt rfl (fun z0 => ?_) (fun z0 => ?_)
  ·
    have rr : h.length ≤ 600000 ∧ ab_sl tb_nf h ≤ 7302250 := by
      obtain ⟨ad, T, I, J, nx, D, K, made, st, CK, CM, IV, sb, n1, n2, r1, r2⟩ := B
      exact ⟨by omega, by omega⟩
    refine rt_k (k := 1) (pc' := 470) (L' := [some (.retAddr 1000), some (.ref 0), some (.ref 23), some (.int (nI (6 * m)))]) (st' := [.int (nI 1)]) (h' := h) (fun _ => rfl) ?_
    exact rt_r (v := some (.int (nI 1))) rfl rfl (⟨rfl, rr.1, rr.2⟩)
  have hi : 6 * m + 6 ≤ X.1 := by
    rw [Int32.lt_iff_toInt_lt, sub_toI (by omega) (by omega), nI_toInt (by omega)] at z0
    omega
  refine rt_k (k := 2) (pc' := 29) (L' := [some (.retAddr 1000), some (.ref 0), some (.ref 23), some (.int (nI (6 * m)))]) (st' := [.int (nI (6 * m)), .retAddr 1000]) (h' := h) (fun _ => rfl) ?_
  refine rt_sal rfl (by omega) hX ?_
  refine rt_k (k := 2) (pc' := 33) (L' := [some (.retAddr 1000), some (.ref 0), some (.ref 23), some (.int (nI (6 * m)))]) (st' := [.int ((X.2 (6 * m)) &&& (nI 15))]) (h' := h) (fun _ => rfl) ?_
  have e15 : nI 15 = 15 := by decide
  rw [e15]
  have next : ∀ h', both h' (m + 1) → rt_ X 1000 208 463 [some (.retAddr 1000), some (.ref 0), some (.ref 23), some (.int (nI (6 * m)))] [] h' lp_Q := fun h' B' => by
    refine rt_inc (c := 6) rfl rfl ?_
    refine rt_k (k := 1) (pc' := 18) (L' := [some (.retAddr 1000), some (.ref 0), some (.ref 23), some (.int (nI ((6 * m) + 6)))]) (st' := []) (h' := h') (fun _ => rfl) ?_
    rw [show 6 * m + 6 = 6 * (m + 1) by omega]
    exact lw_lp hX (m + 1) (by omega) h' B'
  obtain ⟨j, hj, ej⟩ := pk_andE (X.2 (6 * m)) (m := 15) 4 (by decide +kernel)
  rw [ej]
  have hj16 : j = 0 ∨ j = 1 ∨ j = 2 ∨ j = 3 ∨ j = 4 ∨ j = 5 ∨ j = 6 ∨ j = 7 ∨ j = 8 ∨ j = 9 ∨ j = 10 ∨ j = 11 ∨ j = 12 ∨ j = 13 ∨ j = 14 ∨ j = 15 := by omega
  clear ej hj
  rcases hj16 with rfl | rfl | rfl | rfl | rfl | rfl | rfl | rfl | rfl | rfl | rfl | rfl | rfl | rfl | rfl | rfl
  · refine rt_k (k := 1) (pc' := 108) (L' := [some (.retAddr 1000), some (.ref 0), some (.ref 23), some (.int (nI (6 * m)))]) (st' := []) (h' := h) (fun _ => rfl) ?_
    exact lw_c0 B (by omega) hX hi next
  · refine rt_k (k := 1) (pc' := 171) (L' := [some (.retAddr 1000), some (.ref 0), some (.ref 23), some (.int (nI (6 * m)))]) (st' := []) (h' := h) (fun _ => rfl) ?_
    exact lw_c1 B (by omega) hX hi next
  · refine rt_k (k := 1) (pc' := 194) (L' := [some (.retAddr 1000), some (.ref 0), some (.ref 23), some (.int (nI (6 * m)))]) (st' := []) (h' := h) (fun _ => rfl) ?_
    exact lw_c2 B (by omega) hX hi next
  · refine rt_k (k := 1) (pc' := 207) (L' := [some (.retAddr 1000), some (.ref 0), some (.ref 23), some (.int (nI (6 * m)))]) (st' := []) (h' := h) (fun _ => rfl) ?_
    exact lw_c3 B (by omega) hX hi next
  · refine rt_k (k := 1) (pc' := 230) (L' := [some (.retAddr 1000), some (.ref 0), some (.ref 23), some (.int (nI (6 * m)))]) (st' := []) (h' := h) (fun _ => rfl) ?_
    exact lw_c4 B (by omega) hX hi next
  · refine rt_k (k := 1) (pc' := 243) (L' := [some (.retAddr 1000), some (.ref 0), some (.ref 23), some (.int (nI (6 * m)))]) (st' := []) (h' := h) (fun _ => rfl) ?_
    exact lw_c5 B (by omega) hX hi next
  · refine rt_k (k := 1) (pc' := 256) (L' := [some (.retAddr 1000), some (.ref 0), some (.ref 23), some (.int (nI (6 * m)))]) (st' := []) (h' := h) (fun _ => rfl) ?_
    exact lw_c6 B (by omega) hX hi next
  · refine rt_k (k := 1) (pc' := 289) (L' := [some (.retAddr 1000), some (.ref 0), some (.ref 23), some (.int (nI (6 * m)))]) (st' := []) (h' := h) (fun _ => rfl) ?_
    exact lw_c7 B (by omega) hX hi next
  · refine rt_k (k := 1) (pc' := 312) (L' := [some (.retAddr 1000), some (.ref 0), some (.ref 23), some (.int (nI (6 * m)))]) (st' := []) (h' := h) (fun _ => rfl) ?_
    exact lw_c8 B (by omega) hX hi next
  · refine rt_k (k := 1) (pc' := 335) (L' := [some (.retAddr 1000), some (.ref 0), some (.ref 23), some (.int (nI (6 * m)))]) (st' := []) (h' := h) (fun _ => rfl) ?_
    exact lw_c9 B (by omega) hX hi next
  · refine rt_k (k := 1) (pc' := 368) (L' := [some (.retAddr 1000), some (.ref 0), some (.ref 23), some (.int (nI (6 * m)))]) (st' := []) (h' := h) (fun _ => rfl) ?_
    exact lw_c10 B (by omega) hX hi next
  · refine rt_k (k := 1) (pc' := 401) (L' := [some (.retAddr 1000), some (.ref 0), some (.ref 23), some (.int (nI (6 * m)))]) (st' := []) (h' := h) (fun _ => rfl) ?_
    exact lw_c11 B (by omega) hX hi next
  · refine rt_k (k := 1) (pc' := 414) (L' := [some (.retAddr 1000), some (.ref 0), some (.ref 23), some (.int (nI (6 * m)))]) (st' := []) (h' := h) (fun _ => rfl) ?_
    exact lw_c12 B (by omega) hX hi next
  · refine rt_k (k := 1) (pc' := 427) (L' := [some (.retAddr 1000), some (.ref 0), some (.ref 23), some (.int (nI (6 * m)))]) (st' := []) (h' := h) (fun _ => rfl) ?_
    exact lw_c13 B (by omega) hX hi next
  · refine rt_k (k := 1) (pc' := 440) (L' := [some (.retAddr 1000), some (.ref 0), some (.ref 23), some (.int (nI (6 * m)))]) (st' := []) (h' := h) (fun _ => rfl) ?_
    exact lw_c14 B (by omega) hX hi next
  · refine rt_k (k := 1) (pc' := 463) (L' := [some (.retAddr 1000), some (.ref 0), some (.ref 23), some (.int (nI (6 * m)))]) (st' := []) (h' := h) (fun _ => rfl) ?_
    exact next h B.up
termination_by X.1 - 6 * m
theorem lw_all (hX : X.1 ≤ 3072) : rt_ X 1000 208 0 [some (.retAddr 1000), none, none, none] [] [] lp_Q := lp_0 (lw_lp hX 0 (by omega) hp_0 bs_0)
end LD

