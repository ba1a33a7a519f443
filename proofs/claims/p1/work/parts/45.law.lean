/-! install; THE LAW ON A SCRIPT OF AT MOST SIX INTS. -/
set_option maxRecDepth 100000 in
set_option maxHeartbeats 4000000 in
theorem xi_n (X : Nat × (Nat → Int32)) (a b : Int32) (h0 : ¬ a = 0) (h1 : ¬ a = 1) : rt_ X 999 72 0 [some (.ref 0), some (.int a), some (.int b), none] [] hp_0 (fun v h' => v = some (.int (-1)) ∧ h' = hp_0) := by
  refine rt_n rfl ?_
  refine rt_if rfl (fun h => absurd (i_eq h) h0) (fun _ => ?_)
  refine rt_k (k := 2) (pc' := 6) (L' := [some (.ref 0), some (.int a), some (.int b), none]) (st' := [.int 1, .int a]) (h' := hp_0) (fun _ => rfl) ?_
  refine rt_ic rfl (fun h => absurd (i_eq h) h1) (fun _ => ?_)
  refine rt_k (k := 1) (pc' := 10) (L' := [some (.ref 0), some (.int a), some (.int b), none]) (st' := [.int (-1)]) (h' := hp_0) (fun _ => rfl) ?_
  exact rt_r (v := some (.int (-1))) rfl rfl ⟨rfl, rfl⟩
set_option maxRecDepth 100000 in
set_option maxHeartbeats 4000000 in
theorem yi_n (X : Nat × (Nat → Int32)) (a b : Int32) (h0 : ¬ a = 0) (h1 : ¬ a = 1) : rt_ X 999 167 0 [some (.ref 23), some (.int a), some (.int b), none, none, none, none, none, none] [] hp_0 (fun v h' => v = some (.int (-1)) ∧ h' = hp_0) := by
  refine rt_n rfl ?_
  refine rt_if rfl (fun _ => ?_) (fun h => ?_)
  · show rt_ X 999 167 9 [some (.ref 23), some (.int a), some (.int b), none, none, none, none, none, none] [] hp_0 _
    refine rt_k (k := 1) (pc' := 10) (L' := [some (.ref 23), some (.int a), some (.int b), none, none, none, none, none, none]) (st' := [.int (-1)]) (h' := hp_0) (fun _ => rfl) ?_
    exact rt_r (v := some (.int (-1))) rfl rfl ⟨rfl, rfl⟩
  · refine rt_k (k := 2) (pc' := 6) (L' := [some (.ref 23), some (.int a), some (.int b), none, none, none, none, none, none]) (st' := [.int 1, .int a]) (h' := hp_0) (fun _ => rfl) ?_
    refine rt_ic rfl (fun h2 => ?_) (fun _ => ?_)
    · exfalso
      simp only [ab_cd, decide_eq_true_eq, decide_eq_false_iff_not, Int32.lt_iff_toInt_lt, Int32.le_iff_toInt_le, ← Int32.toInt_inj, k_0, k_1] at h0 h1 h h2
      omega
    · refine rt_k (k := 1) (pc' := 10) (L' := [some (.ref 23), some (.int a), some (.int b), none, none, none, none, none, none]) (st' := [.int (-1)]) (h' := hp_0) (fun _ => rfl) ?_
      exact rt_r (v := some (.int (-1))) rfl rfl ⟨rfl, rfl⟩
set_option maxRecDepth 100000 in
set_option maxHeartbeats 4000000 in
theorem lc_6 (xs : Nat → Int32) : rt_ (6, xs) 1000 182 256 [some (.retAddr 1000), some (.ref 0), some (.ref 23), some (.int 0)] [] hp_0 lp_Q := by
  refine rt_k (k := 11) (pc' := 267) (L' := [some (.retAddr 1000), some (.ref 0), some (.ref 23), some (.int 0)]) (st' := [.int (xs 2), .int (xs 1), .ref 0]) (h' := hp_0) (fun _ => rfl) ?_
  by_cases ha : xs 1 = 0
  · rw [ha]
    cases hb : ab_cd .lt (xs 2) 0 with
    | true =>
      refine rt_c (M' := 72) (as := [.ref 0, .int 0, .int (xs 2)]) (rest := []) rfl rfl (xi_0p (6, xs) (xs 2) hb) ?_
      rintro v1 g1 ⟨rfl, rfl⟩
      refine rt_k (k := 11) (pc' := 281) (L' := [some (.retAddr 1000), some (.ref 0), some (.ref 23), some (.int 0)]) (st' := [.int (xs 2), .int (xs 1), .ref 23, .int 0]) (h' := hp_p) (fun _ => rfl) ?_
      rw [ha]
      refine rt_c (M' := 167) (as := [.ref 23, .int 0, .int (xs 2)]) (rest := [.int 0]) rfl rfl (yi_0p (6, xs) (xs 2) _ _ _ _ _ _ _ _ _ _ _ _ _ _ _ _ _ _ _ _ _ _ _ hb) ?_
      rintro v1 g1 ⟨rfl, rfl⟩
      refine rt_n rfl ?_
      refine lp_9 ?_
      exact ⟨rfl, Nat.le_of_ble_eq_true rfl, Nat.le_of_ble_eq_true rfl⟩
    | false =>
      refine rt_c (M' := 72) (as := [.ref 0, .int 0, .int (xs 2)]) (rest := []) rfl rfl (xi_0c (6, xs) (xs 2) hb) ?_
      rintro v1 g1 ⟨rfl, rfl⟩
      refine rt_k (k := 11) (pc' := 281) (L' := [some (.retAddr 1000), some (.ref 0), some (.ref 23), some (.int 0)]) (st' := [.int (xs 2), .int (xs 1), .ref 23, .int (-5)]) (h' := hp_s) (fun _ => rfl) ?_
      rw [ha]
      refine rt_c (M' := 167) (as := [.ref 23, .int 0, .int (xs 2)]) (rest := [.int (-5)]) rfl rfl (yi_0c (6, xs) (xs 2) _ _ _ _ _ _ _ _ _ _ _ _ _ _ _ _ _ _ _ _ _ _ _ hb) ?_
      rintro v1 g1 ⟨rfl, rfl⟩
      refine rt_n rfl ?_
      refine lp_9 ?_
      exact ⟨rfl, Nat.le_of_ble_eq_true rfl, Nat.le_of_ble_eq_true rfl⟩
  by_cases ha1 : xs 1 = 1
  · have ha := ha1
    rw [ha]
    cases hb : ab_cd .lt (xs 2) 0 with
    | true =>
      refine rt_c (M' := 72) (as := [.ref 0, .int 1, .int (xs 2)]) (rest := []) rfl rfl (xi_1p (6, xs) (xs 2) hb) ?_
      rintro v1 g1 ⟨rfl, rfl⟩
      refine rt_k (k := 11) (pc' := 281) (L' := [some (.retAddr 1000), some (.ref 0), some (.ref 23), some (.int 0)]) (st' := [.int (xs 2), .int (xs 1), .ref 23, .int 0]) (h' := hp_r) (fun _ => rfl) ?_
      rw [ha]
      refine rt_c (M' := 167) (as := [.ref 23, .int 1, .int (xs 2)]) (rest := [.int 0]) rfl rfl (yi_1p (6, xs) (xs 2) _ _ _ _ _ _ _ _ _ _ _ _ _ _ _ _ _ _ _ _ _ _ _ _ _ _ _ _ hb) ?_
      rintro v1 g1 ⟨rfl, rfl⟩
      refine rt_n rfl ?_
      refine lp_9 ?_
      exact ⟨rfl, Nat.le_of_ble_eq_true rfl, Nat.le_of_ble_eq_true rfl⟩
    | false =>
      refine rt_c (M' := 72) (as := [.ref 0, .int 1, .int (xs 2)]) (rest := []) rfl rfl (xi_1c (6, xs) (xs 2) hb) ?_
      rintro v1 g1 ⟨rfl, rfl⟩
      refine rt_k (k := 11) (pc' := 281) (L' := [some (.retAddr 1000), some (.ref 0), some (.ref 23), some (.int 0)]) (st' := [.int (xs 2), .int (xs 1), .ref 23, .int (-5)]) (h' := hp_b) (fun _ => rfl) ?_
      rw [ha]
      refine rt_c (M' := 167) (as := [.ref 23, .int 1, .int (xs 2)]) (rest := [.int (-5)]) rfl rfl (yi_1c (6, xs) (xs 2) _ _ _ _ _ _ _ _ _ _ _ _ _ _ _ _ _ _ _ _ _ _ _ _ _ _ _ _ hb) ?_
      rintro v1 g1 ⟨rfl, rfl⟩
      refine rt_n rfl ?_
      refine lp_9 ?_
      exact ⟨rfl, Nat.le_of_ble_eq_true rfl, Nat.le_of_ble_eq_true rfl⟩
  refine rt_c (M' := 72) (as := [.ref 0, .int (xs 1), .int (xs 2)]) (rest := []) rfl rfl (xi_n (6, xs) (xs 1) (xs 2) ha ha1) ?_
  rintro v1 g1 ⟨rfl, rfl⟩
  refine rt_k (k := 11) (pc' := 281) (L' := [some (.retAddr 1000), some (.ref 0), some (.ref 23), some (.int 0)]) (st' := [.int (xs 2), .int (xs 1), .ref 23, .int (-1)]) (h' := hp_0) (fun _ => rfl) ?_
  refine rt_c (M' := 167) (as := [.ref 23, .int (xs 1), .int (xs 2)]) (rest := [.int (-1)]) rfl rfl (yi_n (6, xs) (xs 1) (xs 2) ha ha1) ?_
  rintro v1 g1 ⟨rfl, rfl⟩
  refine rt_n rfl ?_
  refine lp_9 ?_
  exact lp_h0
set_option maxRecDepth 100000 in
set_option maxHeartbeats 4000000 in
theorem lp_2 (xs : Nat → Int32) : rt_ (6, xs) 1000 182 18 [some (.retAddr 1000), some (.ref 0), some (.ref 23), some (.int 0)] [] hp_0 lp_Q := by
  refine lp_1 ?_
  obtain ⟨j, hj, ej⟩ := pk_andE (xs 0) (m := 15) 4 (by decide +kernel)
  rw [ej]
  have hj16 : j = 0 ∨ j = 1 ∨ j = 2 ∨ j = 3 ∨ j = 4 ∨ j = 5 ∨ j = 6 ∨ j = 7 ∨ j = 8 ∨ j = 9 ∨ j = 10 ∨ j = 11 ∨ j = 12 ∨ j = 13 ∨ j = 14 ∨ j = 15 := by omega
  clear ej hj
  rcases hj16 with rfl | rfl | rfl | rfl | rfl | rfl | rfl | rfl | rfl | rfl | rfl | rfl | rfl | rfl | rfl | rfl
  · refine rt_k (k := 1) (pc' := 108) (L' := [some (.retAddr 1000), some (.ref 0), some (.ref 23), some (.int 0)]) (st' := []) (h' := hp_0) (fun _ => rfl) ?_
    exact lc_0 xs
  · refine rt_k (k := 1) (pc' := 171) (L' := [some (.retAddr 1000), some (.ref 0), some (.ref 23), some (.int 0)]) (st' := []) (h' := hp_0) (fun _ => rfl) ?_
    exact lc_1 xs
  · refine rt_k (k := 1) (pc' := 194) (L' := [some (.retAddr 1000), some (.ref 0), some (.ref 23), some (.int 0)]) (st' := []) (h' := hp_0) (fun _ => rfl) ?_
    exact lc_2 xs
  · refine rt_k (k := 1) (pc' := 207) (L' := [some (.retAddr 1000), some (.ref 0), some (.ref 23), some (.int 0)]) (st' := []) (h' := hp_0) (fun _ => rfl) ?_
    exact lc_3 xs
  · refine rt_k (k := 1) (pc' := 230) (L' := [some (.retAddr 1000), some (.ref 0), some (.ref 23), some (.int 0)]) (st' := []) (h' := hp_0) (fun _ => rfl) ?_
    exact lc_4 xs
  · refine rt_k (k := 1) (pc' := 243) (L' := [some (.retAddr 1000), some (.ref 0), some (.ref 23), some (.int 0)]) (st' := []) (h' := hp_0) (fun _ => rfl) ?_
    exact lc_5 xs
  · refine rt_k (k := 1) (pc' := 256) (L' := [some (.retAddr 1000), some (.ref 0), some (.ref 23), some (.int 0)]) (st' := []) (h' := hp_0) (fun _ => rfl) ?_
    exact lc_6 xs
  · refine rt_k (k := 1) (pc' := 289) (L' := [some (.retAddr 1000), some (.ref 0), some (.ref 23), some (.int 0)]) (st' := []) (h' := hp_0) (fun _ => rfl) ?_
    exact lc_7 xs
  · refine rt_k (k := 1) (pc' := 312) (L' := [some (.retAddr 1000), some (.ref 0), some (.ref 23), some (.int 0)]) (st' := []) (h' := hp_0) (fun _ => rfl) ?_
    exact lc_8 xs
  · refine rt_k (k := 1) (pc' := 335) (L' := [some (.retAddr 1000), some (.ref 0), some (.ref 23), some (.int 0)]) (st' := []) (h' := hp_0) (fun _ => rfl) ?_
    exact lc_9 xs
  · refine rt_k (k := 1) (pc' := 368) (L' := [some (.retAddr 1000), some (.ref 0), some (.ref 23), some (.int 0)]) (st' := []) (h' := hp_0) (fun _ => rfl) ?_
    exact lc_10 xs
  · refine rt_k (k := 1) (pc' := 401) (L' := [some (.retAddr 1000), some (.ref 0), some (.ref 23), some (.int 0)]) (st' := []) (h' := hp_0) (fun _ => rfl) ?_
    exact lc_11 xs
  · refine rt_k (k := 1) (pc' := 414) (L' := [some (.retAddr 1000), some (.ref 0), some (.ref 23), some (.int 0)]) (st' := []) (h' := hp_0) (fun _ => rfl) ?_
    exact lc_12 xs
  · refine rt_k (k := 1) (pc' := 427) (L' := [some (.retAddr 1000), some (.ref 0), some (.ref 23), some (.int 0)]) (st' := []) (h' := hp_0) (fun _ => rfl) ?_
    exact lc_13 xs
  · refine rt_k (k := 1) (pc' := 440) (L' := [some (.retAddr 1000), some (.ref 0), some (.ref 23), some (.int 0)]) (st' := []) (h' := hp_0) (fun _ => rfl) ?_
    exact lc_14 xs
  · refine rt_k (k := 1) (pc' := 463) (L' := [some (.retAddr 1000), some (.ref 0), some (.ref 23), some (.int 0)]) (st' := []) (h' := hp_0) (fun _ => rfl) ?_
    exact lp_9 lp_h0
set_option maxRecDepth 100000 in
set_option maxHeartbeats 4000000 in
theorem lp_all (L : Nat) (hL : L ≤ 6) (xs : Nat → Int32) : rt_ (L, xs) 1000 182 0 [some (.retAddr 1000), none, none, none] [] [] lp_Q := by
  refine lp_0 ?_
  have h7 : L = 0 ∨ L = 1 ∨ L = 2 ∨ L = 3 ∨ L = 4 ∨ L = 5 ∨ L = 6 := by omega
  clear hL
  rcases h7 with rfl | rfl | rfl | rfl | rfl | rfl | rfl
  · refine rt_k (k := 3) (pc' := 21) (L' := [some (.retAddr 1000), some (.ref 0), some (.ref 23), some (.int 0)]) (st' := [.int 0, .int 0]) (h' := hp_0) (fun _ => rfl) ?_
    refine rt_k (k := 4) (pc' := 470) (L' := [some (.retAddr 1000), some (.ref 0), some (.ref 23), some (.int 0)]) (st' := [.int 1]) (h' := hp_0) (fun _ => rfl) ?_
    exact rt_r (v := some (.int 1)) rfl rfl lp_h0
  · refine rt_k (k := 3) (pc' := 21) (L' := [some (.retAddr 1000), some (.ref 0), some (.ref 23), some (.int 0)]) (st' := [.int 1, .int 0]) (h' := hp_0) (fun _ => rfl) ?_
    refine rt_k (k := 4) (pc' := 470) (L' := [some (.retAddr 1000), some (.ref 0), some (.ref 23), some (.int 0)]) (st' := [.int 1]) (h' := hp_0) (fun _ => rfl) ?_
    exact rt_r (v := some (.int 1)) rfl rfl lp_h0
  · refine rt_k (k := 3) (pc' := 21) (L' := [some (.retAddr 1000), some (.ref 0), some (.ref 23), some (.int 0)]) (st' := [.int 2, .int 0]) (h' := hp_0) (fun _ => rfl) ?_
    refine rt_k (k := 4) (pc' := 470) (L' := [some (.retAddr 1000), some (.ref 0), some (.ref 23), some (.int 0)]) (st' := [.int 1]) (h' := hp_0) (fun _ => rfl) ?_
    exact rt_r (v := some (.int 1)) rfl rfl lp_h0
  · refine rt_k (k := 3) (pc' := 21) (L' := [some (.retAddr 1000), some (.ref 0), some (.ref 23), some (.int 0)]) (st' := [.int 3, .int 0]) (h' := hp_0) (fun _ => rfl) ?_
    refine rt_k (k := 4) (pc' := 470) (L' := [some (.retAddr 1000), some (.ref 0), some (.ref 23), some (.int 0)]) (st' := [.int 1]) (h' := hp_0) (fun _ => rfl) ?_
    exact rt_r (v := some (.int 1)) rfl rfl lp_h0
  · refine rt_k (k := 3) (pc' := 21) (L' := [some (.retAddr 1000), some (.ref 0), some (.ref 23), some (.int 0)]) (st' := [.int 4, .int 0]) (h' := hp_0) (fun _ => rfl) ?_
    refine rt_k (k := 4) (pc' := 470) (L' := [some (.retAddr 1000), some (.ref 0), some (.ref 23), some (.int 0)]) (st' := [.int 1]) (h' := hp_0) (fun _ => rfl) ?_
    exact rt_r (v := some (.int 1)) rfl rfl lp_h0
  · refine rt_k (k := 3) (pc' := 21) (L' := [some (.retAddr 1000), some (.ref 0), some (.ref 23), some (.int 0)]) (st' := [.int 5, .int 0]) (h' := hp_0) (fun _ => rfl) ?_
    refine rt_k (k := 4) (pc' := 470) (L' := [some (.retAddr 1000), some (.ref 0), some (.ref 23), some (.int 0)]) (st' := [.int 1]) (h' := hp_0) (fun _ => rfl) ?_
    exact rt_r (v := some (.int 1)) rfl rfl lp_h0
  · exact lp_2 xs
