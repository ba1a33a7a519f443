theorem st_aty : ∀ ty ∈ tb_at, ty ∈ tb_pa ∨ ∃ C, C ∈ tb_ao ∧ ty = .object C := by
  have h : tb_at = tb_pa ++ tb_ao.map (fun C => FieldType.object C) := by decide +kernel
  intro ty hty
  rw [h] at hty
  rcases List.mem_append.mp hty with h1 | h1
  · exact Or.inl h1
  · obtain ⟨C, hC, rfl⟩ := List.mem_map.mp h1
    exact Or.inr ⟨C, hC, rfl⟩
theorem st_prim : ∀ ty ∈ tb_pa, ty = .char ∨ ty = .long ∨ ty = .int ∨ ty = .byte ∨ ty = .boolean := by decide +kernel

theorem st_K {s : State} {args : Array Value} (hts : ∀ w ∈ tb_ws, w.before args s = true) (hao : ∀ C ∈ tb_ao, va_AO C s) : ∃ (D : va_G) (dA : Nat → ClassId), va_K D tb_cl (ab_ty dA) s := by
  have h0 : ∀ ci : Nat, ∃ q : ClassId × (Nat → Nat), ∀ r, tb_cl[ci]? = some r → u_Kn s r.1 r.2.1 r.2.2 q.1 q.2 := by
    intro ci
    by_cases hci : ci < tb_cl.length
    · obtain ⟨C, T, N, hc, e1, e2, e3, e4, e5, e6, e7, e8, e9⟩ := ck_fld hci
      obtain ⟨cC, iS, hk⟩ := u_known (C := C) (T := T) (N := N) (n := N) hts e7 (hts _ e8)
      refine ⟨(cC, iS), fun r hr => ?_⟩
      rw [hc] at hr
      cases hr
      exact hk
    · refine ⟨(0, fun _ => 0), fun r hr => ?_⟩
      rw [List.getElem?_eq_none (by omega)] at hr
      cases hr
  have h1 : ∀ t : Nat, ∃ cA : ClassId, ∀ ty, tb_at[t]? = some ty → ArrOfT s cA ty ∧ va_RA s cA ty := by
    intro t
    by_cases ht : t < tb_at.length
    · obtain ⟨ty, hty⟩ : ∃ ty, tb_at[t]? = some ty := ⟨_, List.getElem?_eq_getElem ht⟩
      rcases st_aty ty (List.mem_of_getElem? hty) with hp | ⟨C, hC, rfl⟩
      · obtain ⟨cA, kA, comp, hfind, hk, hkind⟩ := Cond.arrayClass_spec (hts _ (tb_in11 (List.mem_map.mpr ⟨ty, hp, rfl⟩)))
        refine ⟨cA, fun ty2 h2 => ?_⟩
        rw [hty] at h2
        cases h2
        refine ⟨fun n z => ⟨fun k h => (by cases h), kA, hk, comp, hkind⟩, ?_⟩
        rcases st_prim ty hp with rfl | rfl | rfl | rfl | rfl <;> exact hfind
      · obtain ⟨comp, c, k, h1, h2, h3, h4, h5⟩ := Cond.arrayOver_spec (va_AO.use (A := #[]) (hao C hC))
        refine ⟨c, fun ty2 hq => ?_⟩
        rw [hty] at hq
        cases hq
        exact ⟨fun n z => ⟨fun k h => (by cases h), k, h3, comp, h4⟩, k, comp, h3, h4, h1, h5⟩
    · refine ⟨0, fun ty hq => ?_⟩
      rw [List.getElem?_eq_none (by omega)] at hq
      cases hq
  obtain ⟨ad, had⟩ := Classical.axiomOfChoice h0
  obtain ⟨dA, hdA⟩ := Classical.axiomOfChoice h1
  refine ⟨(fun ci => (ad ci).1, fun ci => (ad ci).2), dA, fun ci r hr => had ci r hr, fun k r hr => ?_⟩
  unfold ab_ty at hr
  rw [List.getElem?_mapIdx] at hr
  obtain ⟨ty, hty, he⟩ := Option.map_eq_some_iff.mp hr
  subst he
  exact hdA k ty hty
def st_tm : List (String × Nat) := [("PackageKeeper$Reader", 81), ("PackageKeeper$Reader", 86), ("PackageKeeper$Reader", 90), ("PackageKeeper$Reader", 109), ("PackageKeeper$Reader", 52), ("PackageKeeperModel", 88), ("PackageKeeperModel", 134), ("PackageKeeperModel", 139), ("PackageKeeperModel", 141), ("PackageKeeperModel", 143), ("PackageKeeperModel", 147), ("PackageKeeperModel", 149), ("PackageKeeperModel", 145)]
def st_t (i : Nat) : Term := .string (st_tm.getD i ("", 0)).1 (st_tm.getD i ("", 0)).2
def st_fl : List Jvm.Cond := flatC (Jvm.Cond.and given_1 narrow_1)
theorem st_f1 : ∀ i, i < tb_sn → Jvm.Cond.exactly (st_t i) "java/lang/String" ∈ st_fl := by decide +kernel
theorem st_f2 : ∀ i, i < tb_sn → Jvm.Cond.eq (.field (st_t i) "java/lang/String" "coder" "B") (.int 0) ∈ st_fl := by decide +kernel
theorem st_f3 : ∀ i, i < tb_sn → Jvm.Cond.arrayOf (.field (st_t i) "java/lang/String" "value" "[B") .byte ∈ st_fl := by decide +kernel
theorem st_f4 : ∀ i, i < tb_sn → Jvm.Cond.eq (.length (.field (st_t i) "java/lang/String" "value" "[B")) (.int (Int32.ofNat (tb_sl.getD i 0))) ∈ st_fl := by decide +kernel
theorem st_f5 : ∀ i, i < tb_sn → ∀ j, j < tb_sl.getD i 0 → Jvm.Cond.eq (.elem (.field (st_t i) "java/lang/String" "value" "[B") (.int (Int32.ofNat j))) (.int ((tb_sb.getD i []).getD j 0)) ∈ st_fl := by decide +kernel
def st_q0 : List (Nat × Nat × Nat) := [(0, 1, 52), (0, 5, 169), (0, 9, 283), (1, 2, 62), (1, 6, 223), (1, 10, 306), (2, 4, 79), (2, 8, 264), (2, 12, 354), (3, 7, 245), (3, 11, 331), (4, 7, 246), (4, 11, 332), (5, 8, 273), (5, 12, 363), (6, 10, 319), (7, 9, 298), (8, 9, 299), (9, 10, 322), (10, 12, 370)]
theorem st_g0 : st_q0.all (fun q => decide (st_fl[q.2.2]? = some (Jvm.Cond.not (Jvm.Cond.eq (st_t q.1) (st_t q.2.1))))) = true := by decide +kernel
def st_q1 : List (Nat × Nat × Nat) := [(0, 2, 61), (0, 6, 222), (0, 10, 305), (1, 3, 69), (1, 7, 243), (1, 11, 329), (2, 5, 171), (2, 9, 285), (3, 4, 80), (3, 8, 265), (3, 12, 355), (4, 8, 266), (4, 12, 356), (5, 9, 294), (6, 7, 256), (6, 11, 342), (7, 10, 320), (8, 10, 321), (9, 11, 345), (11, 12, 371)]
theorem st_g1 : st_q1.all (fun q => decide (st_fl[q.2.2]? = some (Jvm.Cond.not (Jvm.Cond.eq (st_t q.1) (st_t q.2.1))))) = true := by decide +kernel
def st_q2 : List (Nat × Nat × Nat) := [(0, 3, 68), (0, 7, 242), (0, 11, 328), (1, 4, 78), (1, 8, 263), (1, 12, 353), (2, 6, 224), (2, 10, 307), (3, 5, 172), (3, 9, 286), (4, 5, 173), (4, 9, 287), (5, 6, 233), (5, 10, 316), (6, 8, 276), (6, 12, 366), (7, 11, 343), (8, 11, 344), (9, 12, 369)]
theorem st_g2 : st_q2.all (fun q => decide (st_fl[q.2.2]? = some (Jvm.Cond.not (Jvm.Cond.eq (st_t q.1) (st_t q.2.1))))) = true := by decide +kernel
def st_q3 : List (Nat × Nat × Nat) := [(0, 4, 77), (0, 8, 262), (0, 12, 352), (1, 5, 170), (1, 9, 284), (2, 3, 70), (2, 7, 244), (2, 11, 330), (3, 6, 225), (3, 10, 308), (4, 6, 226), (4, 10, 309), (5, 7, 253), (5, 11, 339), (6, 9, 297), (7, 8, 277), (7, 12, 367), (8, 12, 368), (10, 11, 346)]
theorem st_g3 : st_q3.all (fun q => decide (st_fl[q.2.2]? = some (Jvm.Cond.not (Jvm.Cond.eq (st_t q.1) (st_t q.2.1))))) = true := by decide +kernel
theorem st_h : ∀ i, i < tb_sn → ∀ j, j < tb_sn → i ≠ j → ((st_q0 ++ (st_q1 ++ (st_q2 ++ st_q3))).any (fun q => decide (q.1 = i ∧ q.2.1 = j) || decide (q.1 = j ∧ q.2.1 = i))) = true := by decide +kernel
theorem st_f6 : ∀ i, i < tb_sn → ∀ j, j < tb_sn → i ≠ j → (Jvm.Cond.not (Jvm.Cond.eq (st_t i) (st_t j)) ∈ st_fl ∨ Jvm.Cond.not (Jvm.Cond.eq (st_t j) (st_t i)) ∈ st_fl) := by
  intro i hi j hj hij
  obtain ⟨q, hq, hz⟩ := List.any_eq_true.mp (st_h i hi j hj hij)
  have hm : Jvm.Cond.not (Jvm.Cond.eq (st_t q.1) (st_t q.2.1)) ∈ st_fl := by
    rcases List.mem_append.mp hq with hq | hq
    · exact List.mem_of_getElem? (of_decide_eq_true (List.all_eq_true.mp st_g0 q hq))
    rcases List.mem_append.mp hq with hq | hq
    · exact List.mem_of_getElem? (of_decide_eq_true (List.all_eq_true.mp st_g1 q hq))
    rcases List.mem_append.mp hq with hq | hq
    · exact List.mem_of_getElem? (of_decide_eq_true (List.all_eq_true.mp st_g2 q hq))
    · exact List.mem_of_getElem? (of_decide_eq_true (List.all_eq_true.mp st_g3 q hq))
  rw [Bool.or_eq_true] at hz
  rcases hz with hz | hz
  · obtain ⟨e1, e2⟩ := of_decide_eq_true hz
    rw [e1, e2] at hm
    exact Or.inl hm
  · obtain ⟨e1, e2⟩ := of_decide_eq_true hz
    rw [e1, e2] at hm
    exact Or.inr hm
