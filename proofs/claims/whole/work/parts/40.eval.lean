/-! A FRESH KEEPER AND A FRESH REFERENCE: the heap behind the two constructors. -/
section RT8
variable {X : Nat × (Nat → Int32)} {d M pc : Nat} {L : ab_Lo} {st : List Value} {h : List va_E} {Q : Option Value → List va_E → Prop}
theorem rt_if {cd : Jvm.ClassFile.Cond} {off : Int} {r : Nat} {x : Int32} (hi : ab_k (tb_il M) pc = some (.ifCond cd off, r)) (kt : ab_cd cd x 0 = true → rt_ X d M r L st h Q) (kf : ab_cd cd x 0 = false → rt_ X d M (pc + 3) L st h Q) : rt_ X d M pc L (.int x :: st) h Q := by
  cases hc : ab_cd cd x 0 with
  | true => exact rt_n (by unfold ab_s; rw [hi]; simp only [ab_x, ab_n, hc, if_true]) (kt hc)
  | false => exact rt_n (by unfold ab_s; rw [hi]; simp only [ab_x, ab_n, hc]; rfl) (kf hc)
theorem rt_ic {cd : Jvm.ClassFile.Cond} {off : Int} {r : Nat} {x y : Int32} (hi : ab_k (tb_il M) pc = some (.if_icmp cd off, r)) (kt : ab_cd cd x y = true → rt_ X d M r L st h Q) (kf : ab_cd cd x y = false → rt_ X d M (pc + 3) L st h Q) : rt_ X d M pc L (.int y :: .int x :: st) h Q := by
  cases hc : ab_cd cd x y with
  | true => exact rt_n (by unfold ab_s; rw [hi]; simp only [ab_x, ab_n, hc, if_true]) (kt hc)
  | false => exact rt_n (by unfold ab_s; rw [hi]; simp only [ab_x, ab_n, hc]; rfl) (kf hc)
end RT8
def hp_a (t n : Nat) : va_E := .inl (t, n, .inl (fun _ => 0))
def hp_l (t n : Nat) : va_E := .inl (t, n, .inr (.inl (fun _ => 0)))
def hp_q (t n : Nat) : va_E := .inl (t, n, .inr (.inr (.inr (.inr (fun _ => none)))))
def hp_x : List va_E := [.inr (0, [.ref 1, .ref 3, .ref 4, .ref 6, .ref 9, .ref 14]), .inr (1, [.ref 2, .int 0]), hp_a 0 400, .inr (2, [.ref 1, .int 0, .int 0, .int 0]), .inr (3, [.ref 5, .int 0, .int 0]), hp_q 5 32, .inr (4, [.ref 7, .ref 8, .int 0]), hp_l 1 6, hp_q 6 6,
  .inr (5, [.ref 4, .ref 6, .ref 10, .ref 11, .int 0, .ref 12, .ref 13, .int 0, .int 0, .int 0, .int 0, .int 0, .int 0]), hp_a 2 8, hp_l 1 8, hp_a 2 32, hp_a 2 32, .inr (6, [.ref 15, .int 1, .int 0, .ref 16, .ref 17, .int 0]), .inl (7, 4, .inr (.inr (.inr (.inr (va_up (fun _ => none) 0 (some 18)))))), hp_a 2 16, hp_a 2 16, .inr (7, [.ref 20, .ref 21, .int 0]), hp_q 5 0, hp_q 5 0, hp_a 2 0, hp_a 2 0]
def hp_m : List va_E := [.inr (12, [.ref 24, .int 0, .ref 25, .int 0, .int 0, .ref 26, .int 0, .int 0, .ref 27, .ref 28, .int 0, .ref 29, .int 1, .int 0, .ref 30, .ref 31, .int 0, .ref 32, .int 0, .ref 33, .ref 34, .int 0, .int 0, .ref 35]), hp_a 0 400, hp_q 9 400, hp_q 10 32, hp_q 9 6, hp_q 11 6, .inl (12, 4, .inr (.inr (.inr (.inr (va_up (fun _ => none) 0 (some 36)))))), hp_q 10 16, hp_a 4 16, hp_q 9 8, hp_q 10 8, hp_q 10 8, hp_a 4 8, .inr (13, [.ref 37, .ref 38, .int 0]), hp_q 10 8, hp_a 2 8]
def hp_0 : List va_E := hp_x ++ hp_m
set_option maxRecDepth 100000 in
set_option maxHeartbeats 4000000 in
theorem ev_x (X : Nat × (Nat → Int32)) : ab_g X 200 999 0 0 [some (.ref 0)] [] [.inr (0, [.null, .null, .null, .null, .null, .null])] = some (none, hp_x) := rfl
set_option maxRecDepth 100000 in
set_option maxHeartbeats 4000000 in
theorem ev_m (X : Nat × (Nat → Int32)) : ab_g X 200 999 125 0 [some (.ref 23)] [] (hp_x ++ [.inr (12, [.null, .int 0, .null, .int 0, .int 0, .null, .int 0, .int 0, .null, .null, .int 0, .null, .int 0, .int 0, .null, .null, .int 0, .null, .int 0, .null, .null, .int 0, .int 0, .null])]) = some (none, hp_0) := rfl
section RT9
variable {X : Nat × (Nat → Int32)} {d M pc : Nat} {L : ab_Lo} {st : List Value} {h : List va_E} {Q : Option Value → List va_E → Prop}
theorem rt_e {n1 M' : Nat} {as rest : List Value} {v : Option Value} {h' : List va_E} (hs : ab_s X M pc L st h = some (.inr (.inl (M', as, rest)))) (hc : ab_cok M' as rest = true) (e : ab_g X n1 d M' 0 (ab_en as ++ List.replicate (tb_max M' - (ab_en as).length) none) [] h = some (v, h')) (k : rt_ X (d + 1) M (pc + 3) L (v.toList ++ rest) h' Q) : rt_ X (d + 1) M pc L st h Q :=
  rt_c hs hc (P := fun v2 h2 => v2 = v ∧ h2 = h') ⟨n1, v, h', e, rfl, rfl⟩ (fun v2 h2 q => by obtain ⟨rfl, rfl⟩ := q; exact k)
theorem rt_i {M' : Nat} {as rest : List Value} (hs : ab_s X M pc L st h = some (.inr (.inl (M', as, rest)))) (hc : ab_cok M' as rest = true) (k : rt_ X d M' 0 (ab_en as ++ List.replicate (tb_max M' - (ab_en as).length) none) [] h (fun v h' => rt_ X (d + 1) M (pc + 3) L (v.toList ++ rest) h' Q)) : rt_ X (d + 1) M pc L st h Q :=
  rt_c hs hc k (fun _ _ p => p)
end RT9
set_option maxRecDepth 100000 in
set_option maxHeartbeats 4000000 in
/-- the law up to its loop -/
theorem lp_0 {X : Nat × (Nat → Int32)} {Q : Option Value → List va_E → Prop} (k : rt_ X 1000 208 18 [some (.retAddr 1000), some (.ref 0), some (.ref 23), some (.int 0)] [] hp_0 Q) : rt_ X 1000 208 0 [some (.retAddr 1000), none, none, none] [] [] Q := by
  refine rt_k (k := 2) (pc' := 4) (L' := [some (.retAddr 1000), none, none, none]) (st' := [.ref 0, .ref 0]) (h' := [.inr (0, [.null, .null, .null, .null, .null, .null])]) (fun n => rfl) ?_
  refine rt_e (n1 := 200) (M' := 0) (as := [.ref 0]) (rest := [.ref 0]) rfl rfl (ev_x X) ?_
  refine rt_k (k := 3) (pc' := 12) (L' := [some (.retAddr 1000), some (.ref 0), none, none]) (st' := [.ref 23, .ref 23]) (h' := hp_x ++ [.inr (12, [.null, .int 0, .null, .int 0, .int 0, .null, .int 0, .int 0, .null, .null, .int 0, .null, .int 0, .int 0, .null, .null, .int 0, .null, .int 0, .null, .null, .int 0, .int 0, .null])]) (fun n => rfl) ?_
  refine rt_e (n1 := 200) (M' := 125) (as := [.ref 23]) (rest := [.ref 23]) rfl rfl (ev_m X) ?_
  exact rt_k (k := 3) (pc' := 18) (L' := [some (.retAddr 1000), some (.ref 0), some (.ref 23), some (.int 0)]) (st' := []) (h' := hp_0) (fun n => rfl) k
set_option maxRecDepth 100000 in
set_option maxHeartbeats 4000000 in
/-- the law's end behind one call -/
theorem lp_9 {xs : Nat → Int32} {h : List va_E} {Q : Option Value → List va_E → Prop} (q : Q (some (.int 1)) h) : rt_ (6, xs) 1000 208 463 [some (.retAddr 1000), some (.ref 0), some (.ref 23), some (.int 0)] [] h Q := by
  refine rt_k (k := 5) (pc' := 21) (L' := [some (.retAddr 1000), some (.ref 0), some (.ref 23), some (.int 6)]) (st' := [.int 6, .int 6]) (h' := h) (fun n => rfl) ?_
  refine rt_k (k := 4) (pc' := 470) (L' := [some (.retAddr 1000), some (.ref 0), some (.ref 23), some (.int 6)]) (st' := [.int 1]) (h' := h) (fun n => rfl) ?_
  exact rt_r (v := some (.int 1)) rfl rfl q
theorem i_01 {x : Int32} (h0 : ab_cd .lt x 0 = false) (h1 : ab_cd .gt x 1 = false) : x = 0 ∨ x = 1 := by
  simp only [ab_cd, decide_eq_false_iff_not] at h0 h1
  obtain ⟨j, hj, rfl⟩ := nI_of2 (M := 1) (n := 1) (by decide) h0 (Int32.not_lt.mp h1)
  have : j = 0 ∨ j = 1 := by omega
  rcases this with rfl | rfl
  · exact Or.inl rfl
  · exact Or.inr rfl
theorem i_0l {x : Int32} (h0 : ab_cd .lt x 0 = true) : ¬ (x = 0 ∨ x = 1) := by
  intro q
  rcases q with rfl | rfl <;> exact absurd h0 (by decide)
theorem i_0g {x : Int32} (h0 : ab_cd .gt x 1 = true) : ¬ (x = 0 ∨ x = 1) := by
  intro q
  rcases q with rfl | rfl <;> exact absurd h0 (by decide)
theorem i_eq {x y : Int32} (h : ab_cd .eq x y = true) : x = y := of_decide_eq_true h
theorem i_ne {x y : Int32} (h : ab_cd .eq x y = false) : ¬ x = y := of_decide_eq_false h
theorem i_eq2 {x y : Int32} (h : ab_cd .ne x y = false) : x = y := by
  simp only [ab_cd, Bool.not_eq_false', decide_eq_true_eq] at h
  exact h
theorem i_ne2 {x y : Int32} (h : ab_cd .ne x y = true) : ¬ x = y := by
  simp only [ab_cd, Bool.not_eq_true', decide_eq_false_iff_not] at h
  exact h
set_option maxRecDepth 100000 in
set_option maxHeartbeats 4000000 in
/-- the law's loop, its first turn, up to the switch -/
theorem lp_1 {xs : Nat → Int32} {Q : Option Value → List va_E → Prop} (k : rt_ (6, xs) 1000 208 33 [some (.retAddr 1000), some (.ref 0), some (.ref 23), some (.int 0)] [.int (xs 0 &&& 15)] hp_0 Q) : rt_ (6, xs) 1000 208 18 [some (.retAddr 1000), some (.ref 0), some (.ref 23), some (.int 0)] [] hp_0 Q := by
  refine rt_k (k := 3) (pc' := 21) (L' := [some (.retAddr 1000), some (.ref 0), some (.ref 23), some (.int 0)]) (st' := [.int 6, .int 0]) (h' := hp_0) (fun n => rfl) ?_
  refine rt_k (k := 3) (pc' := 27) (L' := [some (.retAddr 1000), some (.ref 0), some (.ref 23), some (.int 0)]) (st' := []) (h' := hp_0) (fun n => rfl) ?_
  exact rt_k (k := 5) (pc' := 33) (L' := [some (.retAddr 1000), some (.ref 0), some (.ref 23), some (.int 0)]) (st' := [.int (xs 0 &&& 15)]) (h' := hp_0) (fun n => rfl) k
/-- what the claim wants at the end -/
def lp_Q (v : Option Value) (h' : List va_E) : Prop := v = some (.int 1) ∧ h'.length ≤ 600000 ∧ ab_sl tb_nf h' ≤ 7302250
