/-! THE REFERENCE, 8: versions compared. -/
def vnu (v : kV) (i : Nat) : Nat := if i = 0 then v.1.1 else if i = 1 then v.1.2.1 else v.1.2.2
theorem vnu_lt {v : kV} (h : nB v) (i : Nat) : vnu v i < 1000000000 := by
  unfold vnu
  split
  · exact h.1
  · split
    · exact h.2.1
    · exact h.2.2
theorem vk_n (v : kV) {i : Nat} (hi : i < 3) : vk v i = lI (vnu v i) := by
  rcases (show i = 0 ∨ i = 1 ∨ i = 2 by omega) with rfl | rfl | rfl <;> rfl
theorem yN_n {N : Nat → Int32} {v : kV} (h : yN N v) {i : Nat} (hi : i < 3) : N i = nI (vnu v i) := by
  rcases (show i = 0 ∨ i = 1 ∨ i = 2 by omega) with rfl | rfl | rfl
  · exact h.1
  · exact h.2.1
  · exact h.2.2
theorem vk_m {v : kV} {j : Nat} {m : kW} (h : v.2[j]? = some m) : vk v (j + 3) = mkI m := by
  show (match v.2[j]? with | some m => mkI m | none => if j = 0 then 9223372036854775807 else -1) = mkI m
  rw [h]
theorem vk_e {v : kV} {j : Nat} (h : v.2.length ≤ j) : vk v (j + 3) = if j = 0 then 9223372036854775807 else -1 := by
  show (match v.2[j]? with | some m => mkI m | none => if j = 0 then 9223372036854775807 else -1) = _
  rw [List.getElem?_eq_none h]
theorem vn_z {K G : Nat → Int64} : ∀ n i, (∀ j, i ≤ j → K j = G j) → vn_c K G n i = 0
  | 0, _, _ => rfl
  | n + 1, i, h => by
    rw [vn_c, if_pos (h i (Nat.le_refl _))]
    exact vn_z n (i + 1) (fun j hj => h j (by omega))
theorem vn_lt {K G : Nat → Int64} {n i : Nat} (hn : 0 < n) (h : K i < G i) : vn_c K G n i = -1 := by
  obtain ⟨m, rfl⟩ : ∃ m, n = m + 1 := ⟨n - 1, by omega⟩
  rw [vn_c, if_neg (fun q => by rw [q] at h; exact Int64.lt_irrefl h), if_pos h]
theorem vn_gt {K G : Nat → Int64} {n i : Nat} (hn : 0 < n) (h : G i < K i) : vn_c K G n i = 1 := by
  obtain ⟨m, rfl⟩ : ∃ m, n = m + 1 := ⟨n - 1, by omega⟩
  rw [vn_c, if_neg (fun q => by rw [q] at h; exact Int64.lt_irrefl h), if_neg (fun q => Int64.lt_irrefl (Int64.lt_trans q h))]
theorem vn_eq {K G : Nat → Int64} {n i : Nat} (hn : 0 < n) (h : K i = G i) : vn_c K G n i = vn_c K G (n - 1) (i + 1) := by
  obtain ⟨m, rfl⟩ : ∃ m, n = m + 1 := ⟨n - 1, by omega⟩
  rw [vn_c, if_pos h]; rfl
theorem mkI_max {m : kW} (h : okM m = true) (hm : m.all mkb = true) : mkI m < 9223372036854775807 := by
  rw [show (9223372036854775807 : Int64) = lI 9223372036854775807 from rfl]
  unfold mkI
  by_cases q : m.all dg = true
  · rw [if_pos q]
    have := mk_dv h q
    exact (lI_ltI (by omega) (by omega)).mpr (by omega)
  · rw [if_neg q]
    have h8 := (mk_sm h hm)
    have h0 : m.getD 0 0 ≤ 122 := (mkb_r (get_all hm (okM_i.mp h).1.1)).2
    have b : ∀ i, m.getD i 0 < 256 := fun i => getD_lt h8.lt i
    refine (lI_ltI (pk_8 h8) (by omega)).mpr ?_
    simp only [pk]
    have := b 1; have := b 2; have := b 3; have := b 4; have := b 5; have := b 6; have := b 7
    omega
theorem mkI_min {m : kW} (h : okM m = true) (hm : m.all mkb = true) : (-1 : Int64) < mkI m := by
  have := mkI_nn (List.all_eq_true.mp hm) (okM_i.mp h).1.2
  rw [Int64.lt_iff_toInt_lt] at this ⊢
  rw [show (0 : Int64).toInt = 0 by decide] at this
  rw [show (-1 : Int64).toInt = -1 by decide]
  omega
section MI
variable {X : Nat × (Nat → Int32)} {d : Nat} {h : List va_E} {Q : Option Value → List va_E → Prop} {u v : kV} {aa ba : Nat}
theorem m_or2 (A : yV h aa u) (B : yV h ba v) (j : Nat) (h1 : j ≤ u.2.length) (h2 : j ≤ v.2.length) (hu : 0 < u.2.length) (hv : 0 < v.2.length) (x3 : Option Value) : rt_ X (d + 7) 148 93 [some (.ref aa), some (.ref ba), some (.int (nI j)), x3] [] h (fun r h' => r = some (.int (vn_c (vk u) (vk v) (4 - j) (j + 3))) ∧ h' = h) := by
  obtain ⟨na, ma, NA, FA, ⟨-, a1⟩, ⟨-, a2⟩, ⟨-, a3⟩, a4, a5, a6, a7, a8⟩ := id A
  obtain ⟨nb, mb, NB, FB, ⟨-, b1⟩, ⟨-, b2⟩, ⟨-, b3⟩, b4, b5, b6, b7, b8⟩ := id B
  have fin : (u.2.length ≤ j ∨ v.2.length ≤ j) → rt_ X (d + 7) 148 145 [some (.ref aa), some (.ref ba), some (.int (nI j)), x3] [] h (fun r h' => r = some (.int (vn_c (vk u) (vk v) (4 - j) (j + 3))) ∧ h' = h) := fun q => by
    refine rt_k (k := 1) (pc' := 146) (L' := [some (.ref aa), some (.ref ba), some (.int (nI j)), x3]) (st' := [.ref aa]) (h' := h) (fun _ => by first | rfl | (cases x3 <;> rfl)) ?_
    refine rt_gf rfl a1 rfl rfl ?_
    refine rt_k (k := 1) (pc' := 150) (L' := [some (.ref aa), some (.ref ba), some (.int (nI j)), x3]) (st' := [.ref ba, .int (nI u.2.length)]) (h' := h) (fun _ => by first | rfl | (cases x3 <;> rfl)) ?_
    refine rt_gf rfl b1 rfl rfl ?_
    refine rt_ige rfl (by omega) (by omega) (fun z => ?_) (fun z => ?_)
    rotate_left
    ·
      obtain ⟨m, hm⟩ := gt_ex (show j < v.2.length by omega)
      have wm := b8 m (gt_in hm)
      have e1 : vk u (j + 3) < vk v (j + 3) := by rw [vk_e (by omega), if_neg (by omega), vk_m hm]; exact mkI_min wm.1 wm.2
      refine rt_k (k := 2) (pc' := 176) (L' := [some (.ref aa), some (.ref ba), some (.int (nI j)), x3]) (st' := [.int (-1)]) (h' := h) (fun _ => by first | rfl | (cases x3 <;> rfl)) ?_
      exact rt_r (v := some (.int (-1))) rfl rfl (⟨by rw [vn_lt (by omega) e1], rfl⟩)
    refine rt_k (k := 1) (pc' := 161) (L' := [some (.ref aa), some (.ref ba), some (.int (nI j)), x3]) (st' := [.ref aa]) (h' := h) (fun _ => by first | rfl | (cases x3 <;> rfl)) ?_
    refine rt_gf rfl a1 rfl rfl ?_
    refine rt_k (k := 1) (pc' := 165) (L' := [some (.ref aa), some (.ref ba), some (.int (nI j)), x3]) (st' := [.ref ba, .int (nI u.2.length)]) (h' := h) (fun _ => by first | rfl | (cases x3 <;> rfl)) ?_
    refine rt_gf rfl b1 rfl rfl ?_
    refine rt_ile rfl (by omega) (by omega) (fun z2 => ?_) (fun z2 => ?_)
    rotate_left
    ·
      obtain ⟨m, hm⟩ := gt_ex (show j < u.2.length by omega)
      have wm := a8 m (gt_in hm)
      have e1 : vk v (j + 3) < vk u (j + 3) := by rw [vk_e (by omega), if_neg (by omega), vk_m hm]; exact mkI_min wm.1 wm.2
      refine rt_k (k := 2) (pc' := 176) (L' := [some (.ref aa), some (.ref ba), some (.int (nI j)), x3]) (st' := [.int (nI 1)]) (h' := h) (fun _ => by first | rfl | (cases x3 <;> rfl)) ?_
      exact rt_r (v := some (.int (nI 1))) rfl rfl (⟨by rw [vn_gt (by omega) e1]; rfl, rfl⟩)
    have e0 : vn_c (vk u) (vk v) (4 - j) (j + 3) = 0 := vn_z _ _ (fun i hi => by
      obtain ⟨i', rfl⟩ : ∃ i', i = i' + 3 := ⟨i - 3, by omega⟩
      rw [vk_e (by omega), vk_e (by omega)])
    refine rt_k (k := 1) (pc' := 176) (L' := [some (.ref aa), some (.ref ba), some (.int (nI j)), x3]) (st' := [.int (nI 0)]) (h' := h) (fun _ => by first | rfl | (cases x3 <;> rfl)) ?_
    exact rt_r (v := some (.int (nI 0))) rfl rfl (⟨by rw [e0]; rfl, rfl⟩)
  refine rt_k (k := 2) (pc' := 95) (L' := [some (.ref aa), some (.ref ba), some (.int (nI j)), x3]) (st' := [.ref aa, .int (nI j)]) (h' := h) (fun _ => by first | rfl | (cases x3 <;> rfl)) ?_
  refine rt_gf rfl a1 rfl rfl ?_
  refine rt_ige rfl (by omega) (by omega) (fun z1 => ?_) (fun z1 => ?_)
  ·
    exact fin (Or.inl z1)
  refine rt_k (k := 2) (pc' := 103) (L' := [some (.ref aa), some (.ref ba), some (.int (nI j)), x3]) (st' := [.ref ba, .int (nI j)]) (h' := h) (fun _ => by first | rfl | (cases x3 <;> rfl)) ?_
  refine rt_gf rfl b1 rfl rfl ?_
  refine rt_ige rfl (by omega) (by omega) (fun z2 => ?_) (fun z2 => ?_)
  ·
    exact fin (Or.inr z2)
  obtain ⟨m, hm⟩ := gt_ex z1
  obtain ⟨m', hm'⟩ := gt_ex z2
  obtain ⟨sa, f1, S1⟩ := a5 j m hm
  obtain ⟨sb, f2, S2⟩ := b5 j m' hm'
  have w1 := a8 m (gt_in hm)
  have w2 := b8 m' (gt_in hm')
  refine rt_k (k := 1) (pc' := 110) (L' := [some (.ref aa), some (.ref ba), some (.int (nI j)), x3]) (st' := [.ref aa]) (h' := h) (fun _ => by first | rfl | (cases x3 <;> rfl)) ?_
  refine rt_gf rfl a1 rfl rfl ?_
  refine rt_k (k := 1) (pc' := 114) (L' := [some (.ref aa), some (.ref ba), some (.int (nI j)), x3]) (st' := [.int (nI j), .ref ma]) (h' := h) (fun _ => by first | rfl | (cases x3 <;> rfl)) ?_
  refine rt_aalN rfl a3 rfl (by omega) (by decide) f1 ?_
  refine rt_k (k := 1) (pc' := 116) (L' := [some (.ref aa), some (.ref ba), some (.int (nI j)), x3]) (st' := [.ref ba, .ref sa]) (h' := h) (fun _ => by first | rfl | (cases x3 <;> rfl)) ?_
  refine rt_gf rfl b1 rfl rfl ?_
  refine rt_k (k := 1) (pc' := 120) (L' := [some (.ref aa), some (.ref ba), some (.int (nI j)), x3]) (st' := [.int (nI j), .ref mb, .ref sa]) (h' := h) (fun _ => by first | rfl | (cases x3 <;> rfl)) ?_
  refine rt_aalN rfl b3 rfl (by omega) (by decide) f2 ?_
  refine rt_cH rfl rfl (m_mark (d := d) S1 S2 w1.1 w1.2 w2.1 w2.2) ?_
  rintro _ ⟨x, rfl, g⟩
  rw [← vk_m hm, ← vk_m hm'] at g
  refine rt_k (k := 2) (pc' := 126) (L' := [some (.ref aa), some (.ref ba), some (.int (nI j)), some (.int x)]) (st' := [.int x]) (h' := h) (fun _ => by first | rfl | (cases x3 <;> rfl)) ?_
  refine rt_qe rfl (fun z3 => ?_) (fun z3 => ?_)
  rotate_left
  ·
    refine rt_k (k := 1) (pc' := 130) (L' := [some (.ref aa), some (.ref ba), some (.int (nI j)), some (.int x)]) (st' := [.int x]) (h' := h) (fun _ => rfl) ?_
    refine rt_qge rfl (fun z4 => ?_) (fun z4 => ?_)
    rotate_left
    ·
      rcases g with ⟨g1, g2⟩ | ⟨g1, g2⟩ | ⟨g1, g2⟩
      · have e0 := vn_lt (n := 4 - j) (by omega) g1
        refine rt_k (k := 2) (pc' := 138) (L' := [some (.ref aa), some (.ref ba), some (.int (nI j)), some (.int x)]) (st' := [.int (-1)]) (h' := h) (fun _ => rfl) ?_
        exact rt_r (v := some (.int (-1))) rfl rfl ⟨by rw [e0], rfl⟩
      · exact absurd g2 z3
      · exact absurd g2 (fun q => z4 (Int32.le_of_lt q))
    rcases g with ⟨g1, g2⟩ | ⟨g1, g2⟩ | ⟨g1, g2⟩
    · exact absurd g2 (Int32.not_lt.mpr z4)
    · exact absurd g2 z3
    · have e0 := vn_gt (n := 4 - j) (by omega) g1
      refine rt_k (k := 1) (pc' := 138) (L' := [some (.ref aa), some (.ref ba), some (.int (nI j)), some (.int x)]) (st' := [.int (nI 1)]) (h' := h) (fun _ => rfl) ?_
      exact rt_r (v := some (.int (nI 1))) rfl rfl ⟨by rw [e0]; rfl, rfl⟩
  have e0 : vk u (j + 3) = vk v (j + 3) := by
    rcases g with ⟨g1, g2⟩ | ⟨g1, g2⟩ | ⟨g1, g2⟩
    · rw [z3] at g2; exact absurd g2 (by decide)
    · exact g1
    · rw [z3] at g2; exact absurd g2 (by decide)
  rw [vn_eq (by omega) e0]
  refine rt_inc (c := 1) rfl rfl ?_
  refine rt_k (k := 1) (pc' := 93) (L' := [some (.ref aa), some (.ref ba), some (.int (nI (j + 1))), some (.int x)]) (st' := []) (h' := h) (fun _ => rfl) ?_
  have := m_or2 A B (j + 1) z1 z2 hu hv (some (.int x))
  rw [show 4 - j - 1 = 4 - (j + 1) by omega, show j + 3 + 1 = j + 1 + 3 by omega]
  exact this
termination_by u.2.length - j
theorem m_or1 (A : yV h aa u) (B : yV h ba v) (i : Nat) (hi : i ≤ 3) : rt_ X (d + 7) 148 2 [some (.ref aa), some (.ref ba), some (.int (nI i)), none] [] h (fun r h' => r = some (.int (vn_c (vk u) (vk v) (7 - i) i)) ∧ h' = h) := by
  obtain ⟨na, ma, NA, FA, ⟨-, a1⟩, ⟨-, a2⟩, ⟨-, a3⟩, a4, a5, a6, a7, a8⟩ := id A
  obtain ⟨nb, mb, NB, FB, ⟨-, b1⟩, ⟨-, b2⟩, ⟨-, b3⟩, b4, b5, b6, b7, b8⟩ := id B
  have la := vnu_lt a6 i
  have lb := vnu_lt b6 i
  refine rt_k (k := 2) (pc' := 4) (L' := [some (.ref aa), some (.ref ba), some (.int (nI i)), none]) (st' := [.int (nI 3), .int (nI i)]) (h' := h) (fun _ => rfl) ?_
  refine rt_ige rfl (by omega) (by decide) (fun z => ?_) (fun z => ?_)
  ·
    have ei : i = 3 := by omega
    subst ei
    refine rt_k (k := 1) (pc' := 50) (L' := [some (.ref aa), some (.ref ba), some (.int (nI 3)), none]) (st' := [.ref aa]) (h' := h) (fun _ => rfl) ?_
    refine rt_gf rfl a1 rfl rfl ?_
    refine rt_zeq rfl (by omega) (fun z1 => ?_) (fun z1 => ?_)
    ·
      have e1 : vk u 3 = 9223372036854775807 := by rw [show 3 = 0 + 3 from rfl, vk_e (by omega), if_pos rfl]
      refine rt_k (k := 1) (pc' := 64) (L' := [some (.ref aa), some (.ref ba), some (.int (nI 3)), none]) (st' := [.ref aa]) (h' := h) (fun _ => rfl) ?_
      refine rt_gf rfl a1 rfl rfl ?_
      refine rt_k (k := 1) (pc' := 68) (L' := [some (.ref aa), some (.ref ba), some (.int (nI 3)), none]) (st' := [.ref ba, .int (nI u.2.length)]) (h' := h) (fun _ => rfl) ?_
      refine rt_gf rfl b1 rfl rfl ?_
      refine rt_ine rfl (by omega) (by omega) (fun z2 => ?_) (fun z2 => ?_)
      rotate_left
      ·
        have e0 : vn_c (vk u) (vk v) (7 - 3) 3 = 0 := vn_z _ _ (fun i hi => by
          obtain ⟨i', rfl⟩ : ∃ i', i = i' + 3 := ⟨i - 3, by omega⟩
          rw [vk_e (by omega), vk_e (by omega)])
        refine rt_k (k := 2) (pc' := 90) (L' := [some (.ref aa), some (.ref ba), some (.int (nI 3)), none]) (st' := [.int (nI 0)]) (h' := h) (fun _ => rfl) ?_
        exact rt_r (v := some (.int (nI 0))) rfl rfl (⟨by rw [e0]; rfl, rfl⟩)
      refine rt_k (k := 1) (pc' := 79) (L' := [some (.ref aa), some (.ref ba), some (.int (nI 3)), none]) (st' := [.ref aa]) (h' := h) (fun _ => rfl) ?_
      refine rt_gf rfl a1 rfl rfl ?_
      refine rt_zne rfl (by omega) (fun z => absurd z (by omega)) (fun _ => ?_)
      obtain ⟨m, hm⟩ := gt_ex (show 0 < v.2.length by omega)
      have wm := b8 m (gt_in hm)
      have e2 : vk v 3 < vk u 3 := by rw [e1, show 3 = 0 + 3 from rfl, vk_m hm]; exact mkI_max wm.1 wm.2
      refine rt_k (k := 2) (pc' := 90) (L' := [some (.ref aa), some (.ref ba), some (.int (nI 3)), none]) (st' := [.int (nI 1)]) (h' := h) (fun _ => rfl) ?_
      exact rt_r (v := some (.int (nI 1))) rfl rfl (⟨by rw [vn_gt (by omega) e2]; rfl, rfl⟩)
    refine rt_k (k := 1) (pc' := 57) (L' := [some (.ref aa), some (.ref ba), some (.int (nI 3)), none]) (st' := [.ref ba]) (h' := h) (fun _ => rfl) ?_
    refine rt_gf rfl b1 rfl rfl ?_
    refine rt_zne rfl (by omega) (fun z3 => ?_) (fun z3 => ?_)
    rotate_left
    ·
      refine rt_k (k := 1) (pc' := 64) (L' := [some (.ref aa), some (.ref ba), some (.int (nI 3)), none]) (st' := [.ref aa]) (h' := h) (fun _ => rfl) ?_
      refine rt_gf rfl a1 rfl rfl ?_
      refine rt_k (k := 1) (pc' := 68) (L' := [some (.ref aa), some (.ref ba), some (.int (nI 3)), none]) (st' := [.ref ba, .int (nI u.2.length)]) (h' := h) (fun _ => rfl) ?_
      refine rt_gf rfl b1 rfl rfl ?_
      refine rt_ine rfl (by omega) (by omega) (fun _ => ?_) (fun z => absurd z (by omega))
      refine rt_k (k := 1) (pc' := 79) (L' := [some (.ref aa), some (.ref ba), some (.int (nI 3)), none]) (st' := [.ref aa]) (h' := h) (fun _ => rfl) ?_
      refine rt_gf rfl a1 rfl rfl ?_
      refine rt_zne rfl (by omega) (fun _ => ?_) (fun z => absurd z (by omega))
      obtain ⟨m, hm⟩ := gt_ex z1
      have wm := a8 m (gt_in hm)
      have e2 : vk u 3 < vk v 3 := by rw [show 3 = 0 + 3 from rfl, vk_m hm, vk_e (by omega), if_pos rfl]; exact mkI_max wm.1 wm.2
      refine rt_k (k := 1) (pc' := 90) (L' := [some (.ref aa), some (.ref ba), some (.int (nI 3)), none]) (st' := [.int (-1)]) (h' := h) (fun _ => rfl) ?_
      exact rt_r (v := some (.int (-1))) rfl rfl (⟨by rw [vn_lt (by omega) e2], rfl⟩)
    refine rt_k (k := 2) (pc' := 93) (L' := [some (.ref aa), some (.ref ba), some (.int (nI 0)), none]) (st' := []) (h' := h) (fun _ => rfl) ?_
    exact m_or2 A B 0 (Nat.zero_le _) (Nat.zero_le _) z1 z3 none
  have ka := vk_n u z
  have kb := vk_n v z
  refine rt_k (k := 1) (pc' := 8) (L' := [some (.ref aa), some (.ref ba), some (.int (nI i)), none]) (st' := [.ref aa]) (h' := h) (fun _ => rfl) ?_
  refine rt_gf rfl a1 rfl rfl ?_
  refine rt_k (k := 1) (pc' := 12) (L' := [some (.ref aa), some (.ref ba), some (.int (nI i)), none]) (st' := [.int (nI i), .ref na]) (h' := h) (fun _ => rfl) ?_
  refine rt_ialN rfl a2 rfl (by omega) (by decide) (yN_n a4 z) ?_
  refine rt_k (k := 1) (pc' := 14) (L' := [some (.ref aa), some (.ref ba), some (.int (nI i)), none]) (st' := [.ref ba, .int (nI (vnu u i))]) (h' := h) (fun _ => rfl) ?_
  refine rt_gf rfl b1 rfl rfl ?_
  refine rt_k (k := 1) (pc' := 18) (L' := [some (.ref aa), some (.ref ba), some (.int (nI i)), none]) (st' := [.int (nI i), .ref nb, .int (nI (vnu u i))]) (h' := h) (fun _ => rfl) ?_
  refine rt_ialN rfl b2 rfl (by omega) (by decide) (yN_n b4 z) ?_
  refine rt_ieq rfl (by omega) (by omega) (fun z1 => ?_) (fun z1 => ?_)
  rotate_left
  ·
    refine rt_k (k := 1) (pc' := 23) (L' := [some (.ref aa), some (.ref ba), some (.int (nI i)), none]) (st' := [.ref aa]) (h' := h) (fun _ => rfl) ?_
    refine rt_gf rfl a1 rfl rfl ?_
    refine rt_k (k := 1) (pc' := 27) (L' := [some (.ref aa), some (.ref ba), some (.int (nI i)), none]) (st' := [.int (nI i), .ref na]) (h' := h) (fun _ => rfl) ?_
    refine rt_ialN rfl a2 rfl (by omega) (by decide) (yN_n a4 z) ?_
    refine rt_k (k := 1) (pc' := 29) (L' := [some (.ref aa), some (.ref ba), some (.int (nI i)), none]) (st' := [.ref ba, .int (nI (vnu u i))]) (h' := h) (fun _ => rfl) ?_
    refine rt_gf rfl b1 rfl rfl ?_
    refine rt_k (k := 1) (pc' := 33) (L' := [some (.ref aa), some (.ref ba), some (.int (nI i)), none]) (st' := [.int (nI i), .ref nb, .int (nI (vnu u i))]) (h' := h) (fun _ => rfl) ?_
    refine rt_ialN rfl b2 rfl (by omega) (by decide) (yN_n b4 z) ?_
    refine rt_ige rfl (by omega) (by omega) (fun z2 => ?_) (fun z2 => ?_)
    rotate_left
    ·
      refine rt_k (k := 2) (pc' := 42) (L' := [some (.ref aa), some (.ref ba), some (.int (nI i)), none]) (st' := [.int (-1)]) (h' := h) (fun _ => rfl) ?_
      exact rt_r (v := some (.int (-1))) rfl rfl (⟨by rw [vn_lt (by omega) (by rw [ka, kb]; exact (lI_ltI (by omega) (by omega)).mpr z2)], rfl⟩)
    refine rt_k (k := 1) (pc' := 42) (L' := [some (.ref aa), some (.ref ba), some (.int (nI i)), none]) (st' := [.int (nI 1)]) (h' := h) (fun _ => rfl) ?_
    exact rt_r (v := some (.int (nI 1))) rfl rfl (⟨by rw [vn_gt (by omega) (by rw [ka, kb]; exact (lI_ltI (by omega) (by omega)).mpr (by omega))]; rfl, rfl⟩)
  rw [vn_eq (by omega) (by rw [ka, kb, z1])]
  refine rt_inc (c := 1) rfl rfl ?_
  refine rt_k (k := 1) (pc' := 2) (L' := [some (.ref aa), some (.ref ba), some (.int (nI (i + 1))), none]) (st' := []) (h' := h) (fun _ => rfl) ?_
  exact m_or1 A B (i + 1) z
termination_by 3 - i
theorem m_order (A : yV h aa u) (B : yV h ba v) : rt_ X (d + 7) 148 0 [some (.ref aa), some (.ref ba), none, none] [] h (fun r h' => r = some (.int (vc u v)) ∧ h' = h) := by
  refine rt_k (k := 2) (pc' := 2) (L' := [some (.ref aa), some (.ref ba), some (.int (nI 0)), none]) (st' := []) (h' := h) (fun _ => rfl) ?_
  exact m_or1 A B 0 (by omega)
end MI

