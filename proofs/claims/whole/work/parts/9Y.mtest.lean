/-! THE REFERENCE, 9: tests, ranges. -/
theorem vn_3 (K G : Nat → Int64) : ∀ n i, vn_c K G n i = -1 ∨ vn_c K G n i = 0 ∨ vn_c K G n i = 1
  | 0, _ => Or.inr (Or.inl rfl)
  | n + 1, i => by
    rw [vn_c]
    split
    · exact vn_3 K G n (i + 1)
    · split
      · exact Or.inl rfl
      · exact Or.inr (Or.inr rfl)
theorem vc_3 (u v : kV) : vc u v = -1 ∨ vc u v = 0 ∨ vc u v = 1 := vn_3 _ _ _ _
section MJ
variable {X : Nat × (Nat → Int32)} {d : Nat} {h : List va_E} {Q : Option Value → List va_E → Prop} {u v : kV} {aa ba : Nat}
theorem m_below (A : yV h aa u) (a b c : Nat) (ha : a < 2147483648) (hb : b < 2147483648) (hc : c < 2147483648) : rt_ X d 163 0 [some (.ref aa), some (.int (nI a)), some (.int (nI b)), some (.int (nI c))] [] h (fun r h' => r = some (.int (tB (vc u ((a, b, c), []) < 0))) ∧ h' = h) := by
  obtain ⟨na, ma, NA, FA, ⟨-, a1⟩, ⟨-, a2⟩, ⟨-, a3⟩, a4, a5, a6, a7, a8⟩ := id A
  have l0 := a6.1
  have l1 := a6.2.1
  have l2 := a6.2.2
  have e1 : (-1 : Int32) < 0 := by decide
  have e2 : ¬ (1 : Int32) < 0 := by decide
  have hv : vc u ((a, b, c), []) = vn_c (vk u) (vk ((a, b, c), [])) 7 0 := rfl
  refine rt_k (k := 1) (pc' := 1) (L' := [some (.ref aa), some (.int (nI a)), some (.int (nI b)), some (.int (nI c))]) (st' := [.ref aa]) (h' := h) (fun _ => rfl) ?_
  refine rt_gf rfl a1 rfl rfl ?_
  refine rt_k (k := 1) (pc' := 5) (L' := [some (.ref aa), some (.int (nI a)), some (.int (nI b)), some (.int (nI c))]) (st' := [.int (nI 0), .ref na]) (h' := h) (fun _ => rfl) ?_
  refine rt_ialN rfl a2 rfl (by omega) (by decide) a4.1 ?_
  refine rt_k (k := 1) (pc' := 7) (L' := [some (.ref aa), some (.int (nI a)), some (.int (nI b)), some (.int (nI c))]) (st' := [.int (nI a), .int (nI u.1.1)]) (h' := h) (fun _ => rfl) ?_
  refine rt_ieq rfl (by omega) (by omega) (fun z0 => ?_) (fun z0 => ?_)
  rotate_left
  ·
    refine rt_k (k := 1) (pc' := 11) (L' := [some (.ref aa), some (.int (nI a)), some (.int (nI b)), some (.int (nI c))]) (st' := [.ref aa]) (h' := h) (fun _ => rfl) ?_
    refine rt_gf rfl a1 rfl rfl ?_
    refine rt_k (k := 1) (pc' := 15) (L' := [some (.ref aa), some (.int (nI a)), some (.int (nI b)), some (.int (nI c))]) (st' := [.int (nI 0), .ref na]) (h' := h) (fun _ => rfl) ?_
    refine rt_ialN rfl a2 rfl (by omega) (by decide) a4.1 ?_
    refine rt_k (k := 1) (pc' := 17) (L' := [some (.ref aa), some (.int (nI a)), some (.int (nI b)), some (.int (nI c))]) (st' := [.int (nI a), .int (nI u.1.1)]) (h' := h) (fun _ => rfl) ?_
    refine rt_ige rfl (by omega) (by omega) (fun y0 => ?_) (fun y0 => ?_)
    rotate_left
    ·
      refine rt_k (k := 2) (pc' := 25) (L' := [some (.ref aa), some (.int (nI a)), some (.int (nI b)), some (.int (nI c))]) (st' := [.int (nI 1)]) (h' := h) (fun _ => rfl) ?_
      exact rt_r (v := some (.int (nI 1))) rfl rfl (⟨ret1 (by rw [hv, vn_lt (by decide) (show vk u (0) < vk ((a, b, c), []) (0) from (lI_ltI (a := u.1.1) (b := a) (by omega) (by omega)).mpr y0)]; exact e1), rfl⟩)
    refine rt_k (k := 1) (pc' := 25) (L' := [some (.ref aa), some (.int (nI a)), some (.int (nI b)), some (.int (nI c))]) (st' := [.int (nI 0)]) (h' := h) (fun _ => rfl) ?_
    exact rt_r (v := some (.int (nI 0))) rfl rfl (⟨ret0 (by rw [hv, vn_gt (by decide) (show vk ((a, b, c), []) (0) < vk u (0) from (lI_ltI (a := a) (b := u.1.1) (by omega) (by omega)).mpr (by omega))]; exact e2), rfl⟩)
  rw [vn_eq (by decide) (show lI u.1.1 = lI a by rw [z0])] at hv
  refine rt_k (k := 1) (pc' := 27) (L' := [some (.ref aa), some (.int (nI a)), some (.int (nI b)), some (.int (nI c))]) (st' := [.ref aa]) (h' := h) (fun _ => rfl) ?_
  refine rt_gf rfl a1 rfl rfl ?_
  refine rt_k (k := 1) (pc' := 31) (L' := [some (.ref aa), some (.int (nI a)), some (.int (nI b)), some (.int (nI c))]) (st' := [.int (nI 1), .ref na]) (h' := h) (fun _ => rfl) ?_
  refine rt_ialN rfl a2 rfl (by omega) (by decide) a4.2.1 ?_
  refine rt_k (k := 1) (pc' := 33) (L' := [some (.ref aa), some (.int (nI a)), some (.int (nI b)), some (.int (nI c))]) (st' := [.int (nI b), .int (nI u.1.2.1)]) (h' := h) (fun _ => rfl) ?_
  refine rt_ieq rfl (by omega) (by omega) (fun z1 => ?_) (fun z1 => ?_)
  rotate_left
  ·
    refine rt_k (k := 1) (pc' := 37) (L' := [some (.ref aa), some (.int (nI a)), some (.int (nI b)), some (.int (nI c))]) (st' := [.ref aa]) (h' := h) (fun _ => rfl) ?_
    refine rt_gf rfl a1 rfl rfl ?_
    refine rt_k (k := 1) (pc' := 41) (L' := [some (.ref aa), some (.int (nI a)), some (.int (nI b)), some (.int (nI c))]) (st' := [.int (nI 1), .ref na]) (h' := h) (fun _ => rfl) ?_
    refine rt_ialN rfl a2 rfl (by omega) (by decide) a4.2.1 ?_
    refine rt_k (k := 1) (pc' := 43) (L' := [some (.ref aa), some (.int (nI a)), some (.int (nI b)), some (.int (nI c))]) (st' := [.int (nI b), .int (nI u.1.2.1)]) (h' := h) (fun _ => rfl) ?_
    refine rt_ige rfl (by omega) (by omega) (fun y1 => ?_) (fun y1 => ?_)
    rotate_left
    ·
      refine rt_k (k := 2) (pc' := 51) (L' := [some (.ref aa), some (.int (nI a)), some (.int (nI b)), some (.int (nI c))]) (st' := [.int (nI 1)]) (h' := h) (fun _ => rfl) ?_
      exact rt_r (v := some (.int (nI 1))) rfl rfl (⟨ret1 (by rw [hv, vn_lt (by decide) (show vk u (0 + 1) < vk ((a, b, c), []) (0 + 1) from (lI_ltI (a := u.1.2.1) (b := b) (by omega) (by omega)).mpr y1)]; exact e1), rfl⟩)
    refine rt_k (k := 1) (pc' := 51) (L' := [some (.ref aa), some (.int (nI a)), some (.int (nI b)), some (.int (nI c))]) (st' := [.int (nI 0)]) (h' := h) (fun _ => rfl) ?_
    exact rt_r (v := some (.int (nI 0))) rfl rfl (⟨ret0 (by rw [hv, vn_gt (by decide) (show vk ((a, b, c), []) (0 + 1) < vk u (0 + 1) from (lI_ltI (a := b) (b := u.1.2.1) (by omega) (by omega)).mpr (by omega))]; exact e2), rfl⟩)
  rw [vn_eq (by decide) (show lI u.1.2.1 = lI b by rw [z1])] at hv
  refine rt_k (k := 1) (pc' := 53) (L' := [some (.ref aa), some (.int (nI a)), some (.int (nI b)), some (.int (nI c))]) (st' := [.ref aa]) (h' := h) (fun _ => rfl) ?_
  refine rt_gf rfl a1 rfl rfl ?_
  refine rt_k (k := 1) (pc' := 57) (L' := [some (.ref aa), some (.int (nI a)), some (.int (nI b)), some (.int (nI c))]) (st' := [.int (nI 2), .ref na]) (h' := h) (fun _ => rfl) ?_
  refine rt_ialN rfl a2 rfl (by omega) (by decide) a4.2.2 ?_
  refine rt_k (k := 1) (pc' := 59) (L' := [some (.ref aa), some (.int (nI a)), some (.int (nI b)), some (.int (nI c))]) (st' := [.int (nI c), .int (nI u.1.2.2)]) (h' := h) (fun _ => rfl) ?_
  refine rt_ieq rfl (by omega) (by omega) (fun z2 => ?_) (fun z2 => ?_)
  rotate_left
  ·
    refine rt_k (k := 1) (pc' := 63) (L' := [some (.ref aa), some (.int (nI a)), some (.int (nI b)), some (.int (nI c))]) (st' := [.ref aa]) (h' := h) (fun _ => rfl) ?_
    refine rt_gf rfl a1 rfl rfl ?_
    refine rt_k (k := 1) (pc' := 67) (L' := [some (.ref aa), some (.int (nI a)), some (.int (nI b)), some (.int (nI c))]) (st' := [.int (nI 2), .ref na]) (h' := h) (fun _ => rfl) ?_
    refine rt_ialN rfl a2 rfl (by omega) (by decide) a4.2.2 ?_
    refine rt_k (k := 1) (pc' := 69) (L' := [some (.ref aa), some (.int (nI a)), some (.int (nI b)), some (.int (nI c))]) (st' := [.int (nI c), .int (nI u.1.2.2)]) (h' := h) (fun _ => rfl) ?_
    refine rt_ige rfl (by omega) (by omega) (fun y2 => ?_) (fun y2 => ?_)
    rotate_left
    ·
      refine rt_k (k := 2) (pc' := 77) (L' := [some (.ref aa), some (.int (nI a)), some (.int (nI b)), some (.int (nI c))]) (st' := [.int (nI 1)]) (h' := h) (fun _ => rfl) ?_
      exact rt_r (v := some (.int (nI 1))) rfl rfl (⟨ret1 (by rw [hv, vn_lt (by decide) (show vk u (0 + 1 + 1) < vk ((a, b, c), []) (0 + 1 + 1) from (lI_ltI (a := u.1.2.2) (b := c) (by omega) (by omega)).mpr y2)]; exact e1), rfl⟩)
    refine rt_k (k := 1) (pc' := 77) (L' := [some (.ref aa), some (.int (nI a)), some (.int (nI b)), some (.int (nI c))]) (st' := [.int (nI 0)]) (h' := h) (fun _ => rfl) ?_
    exact rt_r (v := some (.int (nI 0))) rfl rfl (⟨ret0 (by rw [hv, vn_gt (by decide) (show vk ((a, b, c), []) (0 + 1 + 1) < vk u (0 + 1 + 1) from (lI_ltI (a := c) (b := u.1.2.2) (by omega) (by omega)).mpr (by omega))]; exact e2), rfl⟩)
  rw [vn_eq (by decide) (show lI u.1.2.2 = lI c by rw [z2])] at hv
  refine rt_k (k := 1) (pc' := 79) (L' := [some (.ref aa), some (.int (nI a)), some (.int (nI b)), some (.int (nI c))]) (st' := [.ref aa]) (h' := h) (fun _ => rfl) ?_
  refine rt_gf rfl a1 rfl rfl ?_
  refine rt_zle rfl (by omega) (fun z3 => ?_) (fun z3 => ?_)
  ·
    have e0 : vn_c (vk u) (vk ((a, b, c), [])) 4 3 = 0 := vn_z _ _ (fun i hi => by
      obtain ⟨i', rfl⟩ : ∃ i', i = i' + 3 := ⟨i - 3, by omega⟩
      rw [vk_e (by omega), vk_e (Nat.zero_le _)])
    refine rt_k (k := 1) (pc' := 90) (L' := [some (.ref aa), some (.int (nI a)), some (.int (nI b)), some (.int (nI c))]) (st' := [.int (nI 0)]) (h' := h) (fun _ => rfl) ?_
    exact rt_r (v := some (.int (nI 0))) rfl rfl (⟨ret0 (by rw [hv]; show ¬ vn_c (vk u) (vk ((a, b, c), [])) 4 3 < 0; rw [e0]; decide), rfl⟩)
  obtain ⟨m, hm⟩ := gt_ex z3
  have wm := a8 m (gt_in hm)
  have e3 : vk u 3 < vk ((a, b, c), []) 3 := by rw [show 3 = 0 + 3 from rfl, vk_m hm, vk_e (Nat.zero_le _), if_pos rfl]; exact mkI_max wm.1 wm.2
  refine rt_k (k := 2) (pc' := 90) (L' := [some (.ref aa), some (.int (nI a)), some (.int (nI b)), some (.int (nI c))]) (st' := [.int (nI 1)]) (h' := h) (fun _ => rfl) ?_
  exact rt_r (v := some (.int (nI 1))) rfl rfl (⟨ret1 (by rw [hv]; show vn_c (vk u) (vk ((a, b, c), [])) 4 3 < 0; rw [vn_lt (by decide) e3]; exact e1), rfl⟩)
theorem tP_1 (u v : kV) : tP u (some (1, v)) = true ↔ vc u v = 0 := by
  rcases vc_3 u v with e | e | e <;> simp [tP, tsO, tfl, e, ab_cd]
theorem tP_2 (u v : kV) : tP u (some (2, v)) = true ↔ vc u v < 0 := by
  rcases vc_3 u v with e | e | e <;> simp [tP, tsO, tfl, e, ab_cd]
theorem tP_3 (u v : kV) : tP u (some (3, v)) = true ↔ ¬ 0 < vc u v := by
  rcases vc_3 u v with e | e | e <;> simp [tP, tsO, tfl, e, ab_cd]
theorem tP_4 (u v : kV) : tP u (some (4, v)) = true ↔ 0 < vc u v := by
  rcases vc_3 u v with e | e | e <;> simp [tP, tsO, tfl, e, ab_cd]
theorem tP_5 (u v : kV) : tP u (some (5, v)) = true ↔ ¬ vc u v < 0 := by
  rcases vc_3 u v with e | e | e <;> simp [tP, tsO, tfl, e, ab_cd]
theorem tP_0 (u : kV) : tP u none = true := by simp [tP, tsO, tfl, ab_cd]
theorem tP_6 (u v : kV) : tP u (some (6, v)) = true ↔ ¬ vc u v < 0 ∧ vc u (vBrk v) < 0 := by
  rcases vc_3 u v with e | e | e <;> rcases vc_3 u (vBrk v) with g | g | g <;> simp [tP, tsO, tfl, e, g, ab_cd]
theorem tP_7 (u v : kV) : tP u (some (7, v)) = true ↔ ¬ vc u v < 0 ∧ vc u (vMin v) < 0 := by
  rcases vc_3 u v with e | e | e <;> rcases vc_3 u (vMin v) with g | g | g <;> simp [tP, tsO, tfl, e, g, ab_cd]
theorem m_test0 (x : Value) : rt_ X d 162 0 [some (.int (nI 0)), some (.ref aa), some .null, none, none] [] h (fun r h' => r = some (.int (tB (tP u none = true))) ∧ h' = h) := by
  refine rt_k (k := 3) (pc' := 5) (L' := [some (.int (nI 0)), some (.ref aa), some (.null), none, none]) (st' := [.int (nI 1)]) (h' := h) (fun _ => rfl) ?_
  exact rt_r (v := some (.int (nI 1))) rfl rfl (⟨ret1 (tP_0 u), rfl⟩)
theorem m_test (A : yV h aa u) (B : yV h ba v) (s : Nat) (hs : 1 ≤ s ∧ s ≤ 7) : rt_ X (d + 8) 162 0 [some (.int (nI s)), some (.ref aa), some (.ref ba), none, none] [] h (fun r h' => r = some (.int (tB (tP u (some (s, v)) = true))) ∧ h' = h) := by
  obtain ⟨nb, mb, NB, FB, ⟨-, b1⟩, ⟨-, b2⟩, ⟨-, b3⟩, b4, b5, b6, b7, b8⟩ := id B
  have l0 := b6.1
  have l1 := b6.2.1
  have l2 := b6.2.2
  refine rt_k (k := 1) (pc' := 1) (L' := [some (.int (nI s)), some (.ref aa), some (.ref ba), none, none]) (st' := [.int (nI s)]) (h' := h) (fun _ => rfl) ?_
  refine rt_zne rfl (by omega) (fun _ => ?_) (fun z => absurd z (by omega))
  refine rt_k (k := 2) (pc' := 8) (L' := [some (.int (nI s)), some (.ref aa), some (.ref ba), none, none]) (st' := [.ref ba, .ref aa]) (h' := h) (fun _ => rfl) ?_
  refine rt_cE rfl rfl (m_order A B) ?_
  refine rt_k (k := 2) (pc' := 13) (L' := [some (.int (nI s)), some (.ref aa), some (.ref ba), some (.int (vc u v)), none]) (st' := [.ref ba]) (h' := h) (fun _ => rfl) ?_
  refine rt_gf rfl b1 rfl rfl ?_
  refine rt_k (k := 1) (pc' := 18) (L' := [some (.int (nI s)), some (.ref aa), some (.ref ba), some (.int (vc u v)), some (.ref nb)]) (st' := []) (h' := h) (fun _ => rfl) ?_
  rcases (show s = 1 ∨ s = 2 ∨ s = 3 ∨ s = 4 ∨ s = 5 ∨ s = 6 ∨ s = 7 by omega) with rfl | rfl | rfl | rfl | rfl | rfl | rfl
  · have t0 := trivial
    refine rt_k (k := 2) (pc' := 56) (L' := [some (.int (nI 1)), some (.ref aa), some (.ref ba), some (.int (vc u v)), some (.ref nb)]) (st' := []) (h' := h) (fun _ => rfl) ?_
    refine rt_k (k := 1) (pc' := 57) (L' := [some (.int (nI 1)), some (.ref aa), some (.ref ba), some (.int (vc u v)), some (.ref nb)]) (st' := [.int (vc u v)]) (h' := h) (fun _ => rfl) ?_
    refine rt_qn rfl (fun z => ?_) (fun z => ?_)
    ·
      refine rt_k (k := 1) (pc' := 65) (L' := [some (.int (nI 1)), some (.ref aa), some (.ref ba), some (.int (vc u v)), some (.ref nb)]) (st' := [.int (nI 0)]) (h' := h) (fun _ => rfl) ?_
      exact rt_r (v := some (.int (nI 0))) rfl rfl (⟨ret0 (fun q => z ((tP_1 u v).mp q)), rfl⟩)
    refine rt_k (k := 2) (pc' := 65) (L' := [some (.int (nI 1)), some (.ref aa), some (.ref ba), some (.int (vc u v)), some (.ref nb)]) (st' := [.int (nI 1)]) (h' := h) (fun _ => rfl) ?_
    exact rt_r (v := some (.int (nI 1))) rfl rfl (⟨ret1 ((tP_1 u v).mpr z), rfl⟩)
  · have t0 := trivial
    refine rt_k (k := 2) (pc' := 66) (L' := [some (.int (nI 2)), some (.ref aa), some (.ref ba), some (.int (vc u v)), some (.ref nb)]) (st' := []) (h' := h) (fun _ => rfl) ?_
    refine rt_k (k := 1) (pc' := 67) (L' := [some (.int (nI 2)), some (.ref aa), some (.ref ba), some (.int (vc u v)), some (.ref nb)]) (st' := [.int (vc u v)]) (h' := h) (fun _ => rfl) ?_
    refine rt_qge rfl (fun z => ?_) (fun z => ?_)
    ·
      refine rt_k (k := 1) (pc' := 75) (L' := [some (.int (nI 2)), some (.ref aa), some (.ref ba), some (.int (vc u v)), some (.ref nb)]) (st' := [.int (nI 0)]) (h' := h) (fun _ => rfl) ?_
      exact rt_r (v := some (.int (nI 0))) rfl rfl (⟨ret0 (fun q => absurd ((tP_2 u v).mp q) (Int32.not_lt.mpr z)), rfl⟩)
    refine rt_k (k := 2) (pc' := 75) (L' := [some (.int (nI 2)), some (.ref aa), some (.ref ba), some (.int (vc u v)), some (.ref nb)]) (st' := [.int (nI 1)]) (h' := h) (fun _ => rfl) ?_
    exact rt_r (v := some (.int (nI 1))) rfl rfl (⟨ret1 ((tP_2 u v).mpr (Int32.not_le.mp z)), rfl⟩)
  · have t0 := trivial
    refine rt_k (k := 2) (pc' := 76) (L' := [some (.int (nI 3)), some (.ref aa), some (.ref ba), some (.int (vc u v)), some (.ref nb)]) (st' := []) (h' := h) (fun _ => rfl) ?_
    refine rt_k (k := 1) (pc' := 77) (L' := [some (.int (nI 3)), some (.ref aa), some (.ref ba), some (.int (vc u v)), some (.ref nb)]) (st' := [.int (vc u v)]) (h' := h) (fun _ => rfl) ?_
    refine rt_qgt rfl (fun z => ?_) (fun z => ?_)
    ·
      refine rt_k (k := 1) (pc' := 85) (L' := [some (.int (nI 3)), some (.ref aa), some (.ref ba), some (.int (vc u v)), some (.ref nb)]) (st' := [.int (nI 0)]) (h' := h) (fun _ => rfl) ?_
      exact rt_r (v := some (.int (nI 0))) rfl rfl (⟨ret0 (fun q => (tP_3 u v).mp q z), rfl⟩)
    refine rt_k (k := 2) (pc' := 85) (L' := [some (.int (nI 3)), some (.ref aa), some (.ref ba), some (.int (vc u v)), some (.ref nb)]) (st' := [.int (nI 1)]) (h' := h) (fun _ => rfl) ?_
    exact rt_r (v := some (.int (nI 1))) rfl rfl (⟨ret1 ((tP_3 u v).mpr z), rfl⟩)
  · have t0 := trivial
    refine rt_k (k := 2) (pc' := 86) (L' := [some (.int (nI 4)), some (.ref aa), some (.ref ba), some (.int (vc u v)), some (.ref nb)]) (st' := []) (h' := h) (fun _ => rfl) ?_
    refine rt_k (k := 1) (pc' := 87) (L' := [some (.int (nI 4)), some (.ref aa), some (.ref ba), some (.int (vc u v)), some (.ref nb)]) (st' := [.int (vc u v)]) (h' := h) (fun _ => rfl) ?_
    refine rt_qle rfl (fun z => ?_) (fun z => ?_)
    ·
      refine rt_k (k := 1) (pc' := 95) (L' := [some (.int (nI 4)), some (.ref aa), some (.ref ba), some (.int (vc u v)), some (.ref nb)]) (st' := [.int (nI 0)]) (h' := h) (fun _ => rfl) ?_
      exact rt_r (v := some (.int (nI 0))) rfl rfl (⟨ret0 (fun q => absurd ((tP_4 u v).mp q) (Int32.not_lt.mpr z)), rfl⟩)
    refine rt_k (k := 2) (pc' := 95) (L' := [some (.int (nI 4)), some (.ref aa), some (.ref ba), some (.int (vc u v)), some (.ref nb)]) (st' := [.int (nI 1)]) (h' := h) (fun _ => rfl) ?_
    exact rt_r (v := some (.int (nI 1))) rfl rfl (⟨ret1 ((tP_4 u v).mpr (Int32.not_le.mp z)), rfl⟩)
  · have t0 := trivial
    refine rt_k (k := 2) (pc' := 96) (L' := [some (.int (nI 5)), some (.ref aa), some (.ref ba), some (.int (vc u v)), some (.ref nb)]) (st' := []) (h' := h) (fun _ => rfl) ?_
    refine rt_k (k := 1) (pc' := 97) (L' := [some (.int (nI 5)), some (.ref aa), some (.ref ba), some (.int (vc u v)), some (.ref nb)]) (st' := [.int (vc u v)]) (h' := h) (fun _ => rfl) ?_
    refine rt_qlt rfl (fun z => ?_) (fun z => ?_)
    ·
      refine rt_k (k := 1) (pc' := 105) (L' := [some (.int (nI 5)), some (.ref aa), some (.ref ba), some (.int (vc u v)), some (.ref nb)]) (st' := [.int (nI 0)]) (h' := h) (fun _ => rfl) ?_
      exact rt_r (v := some (.int (nI 0))) rfl rfl (⟨ret0 (fun q => (tP_5 u v).mp q z), rfl⟩)
    refine rt_k (k := 2) (pc' := 105) (L' := [some (.int (nI 5)), some (.ref aa), some (.ref ba), some (.int (vc u v)), some (.ref nb)]) (st' := [.int (nI 1)]) (h' := h) (fun _ => rfl) ?_
    exact rt_r (v := some (.int (nI 1))) rfl rfl (⟨ret1 ((tP_5 u v).mpr z), rfl⟩)
  · have t0 := trivial
    refine rt_k (k := 2) (pc' := 106) (L' := [some (.int (nI 6)), some (.ref aa), some (.ref ba), some (.int (vc u v)), some (.ref nb)]) (st' := []) (h' := h) (fun _ => rfl) ?_
    refine rt_k (k := 1) (pc' := 107) (L' := [some (.int (nI 6)), some (.ref aa), some (.ref ba), some (.int (vc u v)), some (.ref nb)]) (st' := [.int (vc u v)]) (h' := h) (fun _ => rfl) ?_
    refine rt_qge rfl (fun z => ?_) (fun z => ?_)
    rotate_left
    ·
      refine rt_k (k := 1) (pc' := 111) (L' := [some (.int (nI 6)), some (.ref aa), some (.ref ba), some (.int (vc u v)), some (.ref nb)]) (st' := [.int (nI 0)]) (h' := h) (fun _ => rfl) ?_
      exact rt_r (v := some (.int (nI 0))) rfl rfl (⟨ret0 (fun q => ((tP_6 u v).mp q).1 (Int32.not_le.mp z)), rfl⟩)
    have t6 : ∀ w, vBrk v = w → tB (vc u w < 0) = tB (tP u (some (6, v)) = true) := fun w e => tB_iff ⟨fun q => (tP_6 u v).mpr ⟨Int32.not_lt.mpr z, by rw [e]; exact q⟩, fun q => by rw [← e]; exact ((tP_6 u v).mp q).2⟩
    refine rt_k (k := 2) (pc' := 115) (L' := [some (.int (nI 6)), some (.ref aa), some (.ref ba), some (.int (vc u v)), some (.ref nb)]) (st' := [.int (nI 0), .ref nb]) (h' := h) (fun _ => rfl) ?_
    refine rt_ialN rfl b2 rfl (by omega) (by decide) b4.1 ?_
    refine rt_zle rfl (by omega) (fun z1 => ?_) (fun z1 => ?_)
    rotate_left
    ·
      refine rt_k (k := 3) (pc' := 123) (L' := [some (.int (nI 6)), some (.ref aa), some (.ref ba), some (.int (vc u v)), some (.ref nb)]) (st' := [.int (nI 0), .ref nb, .ref aa]) (h' := h) (fun _ => rfl) ?_
      refine rt_ialN rfl b2 rfl (by omega) (by decide) b4.1 ?_
      refine rt_k (k := 1) (pc' := 125) (L' := [some (.int (nI 6)), some (.ref aa), some (.ref ba), some (.int (vc u v)), some (.ref nb)]) (st' := [.int (nI 1), .int (nI v.1.1), .ref aa]) (h' := h) (fun _ => rfl) ?_
      refine rt_add rfl ?_
      refine rt_k (k := 2) (pc' := 128) (L' := [some (.int (nI 6)), some (.ref aa), some (.ref ba), some (.int (vc u v)), some (.ref nb)]) (st' := [.int (nI 0), .int (nI 0), .int (nI (v.1.1 + 1)), .ref aa]) (h' := h) (fun _ => rfl) ?_
      refine rt_cE rfl rfl (m_below A (v.1.1 + 1) 0 0 (by omega) (by omega) (by omega)) ?_
      exact rt_r (v := some (.int (tB (vc u ((v.1.1 + 1, 0, 0), []) < 0)))) rfl (rtT rfl rfl) (⟨by rw [t6]; unfold vBrk; rw [if_pos (by omega)], rfl⟩)
    refine rt_k (k := 2) (pc' := 135) (L' := [some (.int (nI 6)), some (.ref aa), some (.ref ba), some (.int (vc u v)), some (.ref nb)]) (st' := [.int (nI 1), .ref nb]) (h' := h) (fun _ => rfl) ?_
    refine rt_ialN rfl b2 rfl (by omega) (by decide) b4.2.1 ?_
    refine rt_zle rfl (by omega) (fun z2 => ?_) (fun z2 => ?_)
    rotate_left
    ·
      refine rt_k (k := 4) (pc' := 144) (L' := [some (.int (nI 6)), some (.ref aa), some (.ref ba), some (.int (vc u v)), some (.ref nb)]) (st' := [.int (nI 1), .ref nb, .int (nI 0), .ref aa]) (h' := h) (fun _ => rfl) ?_
      refine rt_ialN rfl b2 rfl (by omega) (by decide) b4.2.1 ?_
      refine rt_k (k := 1) (pc' := 146) (L' := [some (.int (nI 6)), some (.ref aa), some (.ref ba), some (.int (vc u v)), some (.ref nb)]) (st' := [.int (nI 1), .int (nI v.1.2.1), .int (nI 0), .ref aa]) (h' := h) (fun _ => rfl) ?_
      refine rt_add rfl ?_
      refine rt_k (k := 1) (pc' := 148) (L' := [some (.int (nI 6)), some (.ref aa), some (.ref ba), some (.int (vc u v)), some (.ref nb)]) (st' := [.int (nI 0), .int (nI (v.1.2.1 + 1)), .int (nI 0), .ref aa]) (h' := h) (fun _ => rfl) ?_
      refine rt_cE rfl rfl (m_below A 0 (v.1.2.1 + 1) 0 (by omega) (by omega) (by omega)) ?_
      refine rt_k (k := 1) (pc' := 166) (L' := [some (.int (nI 6)), some (.ref aa), some (.ref ba), some (.int (vc u v)), some (.ref nb)]) (st' := [.int (tB (vc u ((0, v.1.2.1 + 1, 0), []) < 0))]) (h' := h) (fun _ => rfl) ?_
      exact rt_r (v := some (.int (tB (vc u ((0, v.1.2.1 + 1, 0), []) < 0)))) rfl (rtT rfl rfl) (⟨by rw [t6]; unfold vBrk; rw [if_neg (by omega), if_pos (by omega), z1], rfl⟩)
    refine rt_k (k := 5) (pc' := 160) (L' := [some (.int (nI 6)), some (.ref aa), some (.ref ba), some (.int (vc u v)), some (.ref nb)]) (st' := [.int (nI 2), .ref nb, .int (nI 0), .int (nI 0), .ref aa]) (h' := h) (fun _ => rfl) ?_
    refine rt_ialN rfl b2 rfl (by omega) (by decide) b4.2.2 ?_
    refine rt_k (k := 1) (pc' := 162) (L' := [some (.int (nI 6)), some (.ref aa), some (.ref ba), some (.int (vc u v)), some (.ref nb)]) (st' := [.int (nI 1), .int (nI v.1.2.2), .int (nI 0), .int (nI 0), .ref aa]) (h' := h) (fun _ => rfl) ?_
    refine rt_add rfl ?_
    refine rt_cE rfl rfl (m_below A 0 0 (v.1.2.2 + 1) (by omega) (by omega) (by omega)) ?_
    exact rt_r (v := some (.int (tB (vc u ((0, 0, v.1.2.2 + 1), []) < 0)))) rfl (rtT rfl rfl) (⟨by rw [t6]; unfold vBrk; rw [if_neg (by omega), if_neg (by omega)], rfl⟩)
  · have t0 := trivial
    refine rt_k (k := 2) (pc' := 167) (L' := [some (.int (nI 7)), some (.ref aa), some (.ref ba), some (.int (vc u v)), some (.ref nb)]) (st' := []) (h' := h) (fun _ => rfl) ?_
    refine rt_k (k := 1) (pc' := 168) (L' := [some (.int (nI 7)), some (.ref aa), some (.ref ba), some (.int (vc u v)), some (.ref nb)]) (st' := [.int (vc u v)]) (h' := h) (fun _ => rfl) ?_
    refine rt_qlt rfl (fun z => ?_) (fun z => ?_)
    ·
      refine rt_k (k := 1) (pc' := 194) (L' := [some (.int (nI 7)), some (.ref aa), some (.ref ba), some (.int (vc u v)), some (.ref nb)]) (st' := [.int (nI 0)]) (h' := h) (fun _ => rfl) ?_
      exact rt_r (v := some (.int (nI 0))) rfl rfl (⟨ret0 (fun q => ((tP_7 u v).mp q).1 z), rfl⟩)
    refine rt_k (k := 3) (pc' := 175) (L' := [some (.int (nI 7)), some (.ref aa), some (.ref ba), some (.int (vc u v)), some (.ref nb)]) (st' := [.int (nI 0), .ref nb, .ref aa]) (h' := h) (fun _ => rfl) ?_
    refine rt_ialN rfl b2 rfl (by omega) (by decide) b4.1 ?_
    refine rt_k (k := 2) (pc' := 179) (L' := [some (.int (nI 7)), some (.ref aa), some (.ref ba), some (.int (vc u v)), some (.ref nb)]) (st' := [.int (nI 1), .ref nb, .int (nI v.1.1), .ref aa]) (h' := h) (fun _ => rfl) ?_
    refine rt_ialN rfl b2 rfl (by omega) (by decide) b4.2.1 ?_
    refine rt_k (k := 1) (pc' := 181) (L' := [some (.int (nI 7)), some (.ref aa), some (.ref ba), some (.int (vc u v)), some (.ref nb)]) (st' := [.int (nI 1), .int (nI v.1.2.1), .int (nI v.1.1), .ref aa]) (h' := h) (fun _ => rfl) ?_
    refine rt_add rfl ?_
    refine rt_k (k := 1) (pc' := 183) (L' := [some (.int (nI 7)), some (.ref aa), some (.ref ba), some (.int (vc u v)), some (.ref nb)]) (st' := [.int (nI 0), .int (nI (v.1.2.1 + 1)), .int (nI v.1.1), .ref aa]) (h' := h) (fun _ => rfl) ?_
    refine rt_cE rfl rfl (m_below A v.1.1 (v.1.2.1 + 1) 0 (by omega) (by omega) (by omega)) ?_
    refine rt_pe rfl (fun z1 => ?_) (fun z1 => ?_)
    ·
      refine rt_k (k := 1) (pc' := 194) (L' := [some (.int (nI 7)), some (.ref aa), some (.ref ba), some (.int (vc u v)), some (.ref nb)]) (st' := [.int (nI 0)]) (h' := h) (fun _ => rfl) ?_
      exact rt_r (v := some (.int (nI 0))) rfl rfl (⟨ret0 (fun q => z1 ((tP_7 u v).mp q).2), rfl⟩)
    refine rt_k (k := 2) (pc' := 194) (L' := [some (.int (nI 7)), some (.ref aa), some (.ref ba), some (.int (vc u v)), some (.ref nb)]) (st' := [.int (nI 1)]) (h' := h) (fun _ => rfl) ?_
    exact rt_r (v := some (.int (nI 1))) rfl rfl (⟨ret1 ((tP_7 u v).mpr ⟨z, z1⟩), rfl⟩)
end MJ

