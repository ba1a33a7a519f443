/-! THE REFERENCE, 7: marks, versions compared. -/
theorem mkb_r {c : Nat} (h : mkb c = true) : 45 ≤ c ∧ c ≤ 122 := by have := mkb_iff.mp h; omega
theorem mk_sm {m : kW} (h : okM m = true) (hm : m.all mkb = true) : smW m := ⟨(okM_i.mp h).1.2, fun c hc => by have := mkb_r (List.all_eq_true.mp hm c hc); omega⟩
theorem mk_big {m : kW} (h : okM m = true) (hm : m.all mkb = true) : 45 * 72057594037927936 ≤ pk m 8 := by
  have h0 : 45 ≤ m.getD 0 0 := (mkb_r (get_all hm (okM_i.mp h).1.1)).1
  simp only [pk]
  omega
theorem mk_dv {m : kW} (h : okM m = true) (hd : m.all dg = true) : dv m < 100000000 := dv_b (List.all_eq_true.mp hd) (okM_i.mp h).1.2
section MH
variable {X : Nat × (Nat → Int32)} {d : Nat} {h : List va_E} {Q : Option Value → List va_E → Prop} {a b : kW} {aa ba : Nat}
theorem tB_0 {p : Prop} {x : Int32} (e : x = tB p) (h : p) : x = 1 := by rw [e, tB_t h]
theorem m_mark (A : sS h aa a) (B : sS h ba b) (oa : okM a = true) (ma : a.all mkb = true) (ob : okM b = true) (mb : b.all mkb = true) : rt_ X (d + 6) 149 0 [some (.ref aa), some (.ref ba), none, none, none] [] h (fun v h' => h' = h ∧ ∃ x, v = some (.int x) ∧ sg3 x (mkI a) (mkI b)) := by
  have sa := mk_sm oa ma
  have sb := mk_sm ob mb
  have la := (okM_i.mp oa).1
  have lb := (okM_i.mp ob).1
  refine rt_k (k := 1) (pc' := 1) (L' := [some (.ref aa), some (.ref ba), none, none, none]) (st' := [.ref aa]) (h' := h) (fun _ => rfl) ?_
  refine rt_cE rfl rfl (m_digits A) ?_
  refine rt_k (k := 2) (pc' := 6) (L' := [some (.ref aa), some (.ref ba), some (.int (tB (dgs a))), none, none]) (st' := [.ref ba]) (h' := h) (fun _ => rfl) ?_
  refine rt_cE rfl rfl (m_digits B) ?_
  refine rt_k (k := 1) (pc' := 10) (L' := [some (.ref aa), some (.ref ba), some (.int (tB (dgs a))), some (.int (tB (dgs b))), none]) (st' := []) (h' := h) (fun _ => rfl) ?_
  by_cases da : a.all dg = true
  · have ea : dgs a := ⟨da, la.1⟩
    have ia : mkI a = lI (dv a) := by unfold mkI; rw [if_pos da]
    have va := mk_dv oa da
    by_cases db : b.all dg = true
    · have eb : dgs b := ⟨db, lb.1⟩
      have ib : mkI b = lI (dv b) := by unfold mkI; rw [if_pos db]
      have vb := mk_dv ob db
      have na : okN 8 a = true := by rcases (okM_i.mp oa).2 with y | y; exact absurd da y; exact y
      have nb : okN 8 b = true := by rcases (okM_i.mp ob).2 with y | y; exact absurd db y; exact y
      have qa : nmN 8 a = nI (dv a) := by unfold nmN; rw [if_pos ⟨da, na⟩]
      have qb : nmN 8 b = nI (dv b) := by unfold nmN; rw [if_pos ⟨db, nb⟩]
      rw [tB_t ea, tB_t eb, ia, ib]
      refine rt_k (k := 6) (pc' := 21) (L' := [some (.ref aa), some (.ref ba), some (.int 1), some (.int 1), none]) (st' := [.int (nI 8), .ref aa]) (h' := h) (fun _ => rfl) ?_
      refine rt_cE rfl rfl (m_number A (m := 8) (by omega)) ?_
      refine rt_k (k := 2) (pc' := 27) (L' := [some (.ref aa), some (.ref ba), some (.int 1), some (.int 1), none]) (st' := [.int (nI 8), .ref ba, .int (nmN 8 a)]) (h' := h) (fun _ => rfl) ?_
      refine rt_cE rfl rfl (m_number B (m := 8) (by omega)) ?_
      refine rt_k (k := 1) (pc' := 31) (L' := [some (.ref aa), some (.ref ba), some (.int 1), some (.int 1), none]) (st' := [.int ((nmN 8 a) - (nmN 8 b))]) (h' := h) (fun _ => rfl) ?_
      exact rt_r (v := some (.int ((nmN 8 a) - (nmN 8 b)))) rfl rfl (⟨rfl, _, rfl, by rw [qa, qb]; exact sg3_sub (by omega) (by omega) (fun q => (lI_ltI (by omega) (by omega)).mpr q) (fun q => by rw [q]) (fun q => (lI_ltI (by omega) (by omega)).mpr q)⟩)
    · have eb : ¬ dgs b := fun q => db q.1
      have ib : mkI b = nmI b := by unfold mkI; rw [if_neg db]
      have vb := mk_big ob mb
      have pb := pk_8 sb
      rw [tB_t ea, tB_f eb, ia, ib]
      refine rt_k (k := 6) (pc' := 34) (L' := [some (.ref aa), some (.ref ba), some (.int 1), some (.int 0), none]) (st' := [.int 0, .int 1]) (h' := h) (fun _ => rfl) ?_
      refine rt_jeq rfl (fun z => absurd z ((by decide))) (fun _ => ?_)
      refine rt_k (k := 4) (pc' := 46) (L' := [some (.ref aa), some (.ref ba), some (.int 1), some (.int 0), none]) (st' := [.int (-1)]) (h' := h) (fun _ => rfl) ?_
      exact rt_r (v := some (.int (-1))) rfl rfl (⟨rfl, _, rfl, Or.inl ⟨(lI_ltI (by omega) pb).mpr (by omega), by decide⟩⟩)
  · have ea : ¬ dgs a := fun q => da q.1
    have ia : mkI a = nmI a := by unfold mkI; rw [if_neg da]
    by_cases db : b.all dg = true
    · have eb : dgs b := ⟨db, lb.1⟩
      have ib : mkI b = lI (dv b) := by unfold mkI; rw [if_pos db]
      have vb := mk_dv ob db
      have va := mk_big oa ma
      have pa := pk_8 sa
      rw [tB_f ea, tB_t eb, ia, ib]
      refine rt_k (k := 4) (pc' := 34) (L' := [some (.ref aa), some (.ref ba), some (.int 0), some (.int 1), none]) (st' := [.int 1, .int 0]) (h' := h) (fun _ => rfl) ?_
      refine rt_jeq rfl (fun z => absurd z ((by decide))) (fun _ => ?_)
      refine rt_k (k := 3) (pc' := 46) (L' := [some (.ref aa), some (.ref ba), some (.int 0), some (.int 1), none]) (st' := [.int (nI 1)]) (h' := h) (fun _ => rfl) ?_
      exact rt_r (v := some (.int (nI 1))) rfl rfl (⟨rfl, _, rfl, Or.inr (Or.inr ⟨(lI_ltI (by omega) pa).mpr (by omega), by decide⟩)⟩)
    · have eb : ¬ dgs b := fun q => db q.1
      have ib : mkI b = nmI b := by unfold mkI; rw [if_neg db]
      rw [tB_f ea, tB_f eb, ia, ib]
      refine rt_k (k := 4) (pc' := 34) (L' := [some (.ref aa), some (.ref ba), some (.int 0), some (.int 0), none]) (st' := [.int 0, .int 0]) (h' := h) (fun _ => rfl) ?_
      refine rt_jeq rfl (fun _ => ?_) (fun z => absurd z ((fun q => q rfl)))
      refine rt_k (k := 2) (pc' := 50) (L' := [some (.ref aa), some (.ref ba), some (.int 0), some (.int 0), some (.int (nI 0))]) (st' := []) (h' := h) (fun _ => rfl) ?_
      exact m_mk1 (d := d + 2) A B sa sb _ _ 0 (Nat.zero_le _) (Nat.zero_le _) (fun j hj => absurd hj (Nat.not_lt_zero _))
end MH

