/-! EACH FIRST CALL OF THE LAW. -/
theorem k_0 : (0 : Int32).toInt = 0 := by decide +kernel
theorem k_1 : (1 : Int32).toInt = 1 := by decide +kernel
theorem k_im1 : (Int32.ofInt (-1)).toInt = -1 := by decide +kernel
theorem k_i0 : (Int32.ofInt 0).toInt = 0 := by decide +kernel
theorem k_i1 : (Int32.ofInt 1).toInt = 1 := by decide +kernel
theorem k_i2 : (Int32.ofInt 2).toInt = 2 := by decide +kernel
theorem k_i3 : (Int32.ofInt 3).toInt = 3 := by decide +kernel
theorem k_i4 : (Int32.ofInt 4).toInt = 4 := by decide +kernel
theorem k_i5 : (Int32.ofInt 5).toInt = 5 := by decide +kernel
theorem k_b7 : ((Int8.ofInt (-7)).toInt32).toInt = -7 := by decide +kernel
theorem k_b6 : ((Int8.ofInt (-6)).toInt32).toInt = -6 := by decide +kernel
theorem k_b5 : ((Int8.ofInt (-5)).toInt32).toInt = -5 := by decide +kernel
theorem k_b4 : ((Int8.ofInt (-4)).toInt32).toInt = -4 := by decide +kernel
theorem k_b3 : ((Int8.ofInt (-3)).toInt32).toInt = -3 := by decide +kernel
theorem k_b2 : ((Int8.ofInt (-2)).toInt32).toInt = -2 := by decide +kernel
theorem k_b1 : ((Int8.ofInt (-1)).toInt32).toInt = -1 := by decide +kernel
set_option maxRecDepth 100000 in
set_option maxHeartbeats 4000000 in
theorem lp_h0 : lp_Q (some (.int (Int32.ofInt 1))) hp_0 := ⟨rfl, by decide +kernel, by decide +kernel⟩
theorem ok_s {v : Option Value} {h : List va_E} {i : Nat} {e e' : va_E} (k : lp_Q v h) (hi : h[i]? = some e) (hz : ab_z tb_nf e' = ab_z tb_nf e) : lp_Q v (h.set i e') := ⟨k.1, by rw [List.length_set]; exact k.2.1, by rw [ab_sl_set tb_nf h i e e' hi hz]; exact k.2.2⟩
section RT10
variable {X : Nat × (Nat → Int32)} {d M pc : Nat} {L : ab_Lo} {st : List Value} {h : List va_E} {Q : Option Value → List va_E → Prop}
theorem rt_t6 {dflt o0 o1 o2 o3 o4 o5 : Int} {r : Nat} {x : Int32} (hi : ab_k (tb_il M) pc = some (.tableswitch dflt 0 5 #[o0, o1, o2, o3, o4, o5], r)) (hn : 0 ≤ (pc : Int) + dflt ∧ 0 ≤ (pc : Int) + o0 ∧ 0 ≤ (pc : Int) + o1 ∧ 0 ≤ (pc : Int) + o2 ∧ 0 ≤ (pc : Int) + o3 ∧ 0 ≤ (pc : Int) + o4 ∧ 0 ≤ (pc : Int) + o5) (kd : (x.toInt < 0 ∨ 5 < x.toInt) → rt_ X d M ((pc : Int) + dflt).toNat L st h Q)
    (k0 : x.toInt = 0 → rt_ X d M ((pc : Int) + o0).toNat L st h Q) (k1 : x.toInt = 1 → rt_ X d M ((pc : Int) + o1).toNat L st h Q) (k2 : x.toInt = 2 → rt_ X d M ((pc : Int) + o2).toNat L st h Q) (k3 : x.toInt = 3 → rt_ X d M ((pc : Int) + o3).toNat L st h Q) (k4 : x.toInt = 4 → rt_ X d M ((pc : Int) + o4).toNat L st h Q) (k5 : x.toInt = 5 → rt_ X d M ((pc : Int) + o5).toNat L st h Q) : rt_ X d M pc L (.int x :: st) h Q := by
  obtain ⟨nd, n0, n1, n2, n3, n4, n5⟩ := hn
  have hs : ab_s X M pc L (.int x :: st) h = ab_x X r pc (.tableswitch dflt 0 5 #[o0, o1, o2, o3, o4, o5]) L (.int x :: st) h := by unfold ab_s; rw [hi]
  simp only [ab_x] at hs
  by_cases hd : x.toInt < 0 ∨ 5 < x.toInt
  · rw [if_pos hd, if_pos nd] at hs
    exact rt_n hs (kd hd)
  · rw [if_neg hd] at hs
    have hj : x.toInt = 0 ∨ x.toInt = 1 ∨ x.toInt = 2 ∨ x.toInt = 3 ∨ x.toInt = 4 ∨ x.toInt = 5 := by omega
    rcases hj with q | q | q | q | q | q
    · rw [q] at hs
      exact rt_n (hs.trans (if_pos n0)) (k0 q)
    · rw [q] at hs
      exact rt_n (hs.trans (if_pos n1)) (k1 q)
    · rw [q] at hs
      exact rt_n (hs.trans (if_pos n2)) (k2 q)
    · rw [q] at hs
      exact rt_n (hs.trans (if_pos n3)) (k3 q)
    · rw [q] at hs
      exact rt_n (hs.trans (if_pos n4)) (k4 q)
    · rw [q] at hs
      exact rt_n (hs.trans (if_pos n5)) (k5 q)
end RT10
