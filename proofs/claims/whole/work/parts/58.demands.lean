/-! DEMANDS: n names N and ranges G, of cap places. size, nameAt, rangeAt, placeOf. -/
def dm_ (h : List va_E) (a cap n : Nat) (N : Nat → Int64) (G : Nat → Option Nat) : Prop := ∃ nm rg : Nat, h[a]? = some (.inr (4, [.ref nm, .ref rg, .int (nI n)])) ∧ h[nm]? = some (.inl (1, cap, .inr (.inl N))) ∧ h[rg]? = some (.inl (6, cap, .inr (.inr (.inr (.inr G))))) ∧ n ≤ cap ∧ cap ≤ 8
/-- where a name stands, from place i on, -1 if nowhere -/
def dm_p (N : Nat → Int64) (x : Int64) : Nat → Nat → Int32
  | 0, _ => -1
  | n + 1, i => if N i = x then nI i else dm_p N x n (i + 1)
section DM
variable {X : Nat × (Nat → Int32)} {d a cap n : Nat} {N : Nat → Int64} {G : Nat → Option Nat} {h : List va_E}
theorem dm_size (C : dm_ h a cap n N G) : rt_ X d 69 0 [some (.ref a)] [] h (fun r h' => r = some (.int (nI n)) ∧ h' = h) := by
  obtain ⟨nm, rg, c1, c2, c3, h1, h2⟩ := C
  refine rt_n rfl ?_
  refine rt_gf rfl c1 rfl rfl ?_
  exact rt_r (v := some (.int (nI n))) rfl rfl ⟨rfl, rfl⟩
theorem dm_name (C : dm_ h a cap n N G) {i : Nat} (hi : i < cap) : rt_ X d 77 0 [some (.ref a), some (.int (nI i))] [] h (fun r h' => r = some (.long (N i)) ∧ h' = h) := by
  obtain ⟨nm, rg, c1, c2, c3, h1, h2⟩ := C
  refine rt_n rfl ?_
  refine rt_gf rfl c1 rfl rfl ?_
  refine rt_n rfl ?_
  refine rt_lal rfl c2 rfl (tp_ix hi (by omega)) ?_
  rw [nI_clamp (by omega)]
  exact rt_r (v := some (.long (N i))) rfl rfl ⟨rfl, rfl⟩
theorem dm_range (C : dm_ h a cap n N G) {i g : Nat} (hi : i < cap) (hg : G i = some g) : rt_ X d 79 0 [some (.ref a), some (.int (nI i))] [] h (fun r h' => r = some (.ref g) ∧ h' = h) := by
  obtain ⟨nm, rg, c1, c2, c3, h1, h2⟩ := C
  refine rt_n rfl ?_
  refine rt_gf rfl c1 rfl rfl ?_
  refine rt_n rfl ?_
  refine rt_aal rfl c3 rfl (tp_ix hi (by omega)) ?_
  rw [nI_clamp (by omega), hg]
  exact rt_r (v := some (.ref g)) rfl rfl ⟨rfl, rfl⟩
theorem dm_pl (C : dm_ h a cap n N G) (x : Int64) : ∀ (k i : Nat), i + k = n → rt_ X d 9 2 [some (.ref a), some (.long x), none, some (.int (nI i))] [] h (fun r h' => r = some (.int (dm_p N x k i)) ∧ h' = h) := by
  obtain ⟨nm, rg, c1, c2, c3, h1, h2⟩ := C
  intro k
  induction k with
  | zero =>
    intro i hi
    refine rt_n rfl ?_
    refine rt_n rfl ?_
    refine rt_gf rfl c1 rfl rfl ?_
    refine rt_ic rfl (fun _ => ?_) (fun z => ?_)
    · refine rt_n rfl ?_
      exact rt_r (v := some (.int (-1))) rfl rfl ⟨rfl, rfl⟩
    · exfalso
      have z1 : ¬ nI n ≤ nI i := of_decide_eq_false z
      rw [nI_leI (by omega) (by omega)] at z1
      omega
  | succ k ih =>
    intro i hi
    refine rt_n rfl ?_
    refine rt_n rfl ?_
    refine rt_gf rfl c1 rfl rfl ?_
    refine rt_ic rfl (fun z => ?_) (fun _ => ?_)
    · exfalso
      have z1 : nI n ≤ nI i := of_decide_eq_true z
      rw [nI_leI (by omega) (by omega)] at z1
      omega
    refine rt_n rfl ?_
    refine rt_gf rfl c1 rfl rfl ?_
    refine rt_n rfl ?_
    refine rt_lal rfl c2 rfl (tp_ix (by omega) (by omega)) ?_
    rw [nI_clamp (by omega)]
    refine rt_n rfl ?_
    refine rt_n rfl ?_
    refine rt_if rfl (fun z => ?_) (fun z => ?_)
    · have z1 : ¬ N i = x := fun y => i_ne2 z ((lg_0 _ _).mpr y)
      have e1 : dm_p N x (k + 1) i = dm_p N x k (i + 1) := by
        conv => lhs; unfold dm_p
        rw [if_neg z1]
      rw [e1]
      refine rt_n rfl ?_
      refine rt_n rfl ?_
      have e2 : nI i + Int32.ofInt 1 = nI (i + 1) := nI_add i 1
      show rt_ X d 9 2 [some (.ref a), some (.long x), none, some (.int (nI i + Int32.ofInt 1))] [] h _
      rw [e2]
      exact ih (i + 1) (by omega)
    · have z1 : N i = x := (lg_0 _ _).mp (i_eq2 z)
      have e1 : dm_p N x (k + 1) i = nI i := by
        unfold dm_p
        rw [if_pos z1]
      rw [e1]
      refine rt_n rfl ?_
      exact rt_r (v := some (.int (nI i))) rfl rfl ⟨rfl, rfl⟩
theorem dm_place (C : dm_ h a cap n N G) (x : Int64) : rt_ X d 9 0 [some (.ref a), some (.long x), none, none] [] h (fun r h' => r = some (.int (dm_p N x n 0)) ∧ h' = h) := by
  refine rt_n rfl ?_
  refine rt_n rfl ?_
  exact dm_pl C x n 0 (by omega)
end DM
