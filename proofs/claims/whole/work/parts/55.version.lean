/-! THE READER's open, isAtEnd; A VERSION's against. -/
theorem rd_open {X : Nat × (Nat → Int32)} {d rd t q f b : Nat} {T : List Nat} {h : List va_E} {a : Value} (R : h[rd]? = some (rd_c t f b a)) (P : tp_ h t q T) : rt_ X (d + 2) 20 0 [some (.ref rd)] [] h (fun v h' => v = none ∧ h' = h.set rd (rd_c t (wd_b T 401 0) (wd_w T 401 (wd_b T 401 0)) a)) := by
  have hrd : rd < h.length := (List.getElem?_eq_some_iff.mp R).1
  have hno := tp_no P R (by decide)
  have h1 : rd ≠ t := fun z => hno (Or.inl z)
  have h2 : rd ≠ q := fun z => hno (Or.inr z)
  refine rt_n rfl ?_
  refine rt_n rfl ?_
  refine rt_pf rfl R ⟨rfl, (show 2 < 4 by decide), rfl⟩ ?_
  have c1 : (h.set rd (rd_c t f 0 a))[rd]? = some (rd_c t f 0 a) := List.getElem?_set_self hrd
  refine rt_n rfl ?_
  refine rt_cv rfl (by decide) c1 rfl rfl rfl rfl (rd_next c1 (tp_set P h1 h2) (Nat.zero_le _)) ?_
  rintro v g ⟨rfl, rfl⟩
  rw [List.set_set]
  exact rt_r (v := none) rfl rfl ⟨rfl, rfl⟩
theorem rd_atEnd {X : Nat × (Nat → Int32)} {d rd t f b : Nat} {h : List va_E} {a : Value} (R : h[rd]? = some (rd_c t f b a)) (hf : f ≤ 400) (hb : b ≤ 400) : rt_ X d 42 0 [some (.ref rd)] [] h (fun v h' => v = some (.int (if f = b then 1 else 0)) ∧ h' = h) := by
  refine rt_n rfl ?_
  refine rt_gf rfl R rfl rfl ?_
  refine rt_n rfl ?_
  refine rt_gf rfl R rfl rfl ?_
  refine rt_ic rfl (fun z => ?_) (fun z => ?_)
  · have z1 : ¬ nI f = nI b := i_ne2 z
    rw [nI_eq (by omega) (by omega)] at z1
    rw [if_neg z1]
    refine rt_n rfl ?_
    exact rt_r (v := some (.int 0)) rfl rfl ⟨rfl, rfl⟩
  · have z1 : nI f = nI b := i_eq2 z
    rw [nI_eq (by omega) (by omega)] at z1
    rw [if_pos z1]
    refine rt_n rfl ?_
    refine rt_n rfl ?_
    exact rt_r (v := some (.int 1)) rfl rfl ⟨rfl, rfl⟩
/-- a version at v: seven keys -/
def vn_ (h : List va_E) (v k : Nat) (K : Nat → Int64) : Prop := h[v]? = some (.inr (8, [.ref k])) ∧ h[k]? = some (.inl (1, 7, .inr (.inl K)))
/-- which of two rows of keys is below, from place i on; n: how many are left -/
def vn_c (K G : Nat → Int64) : Nat → Nat → Int32
  | 0, _ => 0
  | n + 1, i => if K i = G i then vn_c K G n (i + 1) else if K i < G i then -1 else 1
theorem lg_0 (x y : Int64) : lg_cmp x y = 0 ↔ x = y := by
  unfold lg_cmp
  by_cases h1 : x > y
  · rw [if_pos h1]
    constructor
    · intro z
      exact absurd z (by decide)
    · intro z
      rw [z] at h1
      exact absurd h1 (Int64.lt_irrefl)
  · rw [if_neg h1]
    by_cases h2 : x = y
    · rw [if_pos h2]
      exact ⟨fun _ => h2, fun _ => rfl⟩
    · rw [if_neg h2]
      exact ⟨fun z => absurd z (by decide), fun z => absurd z h2⟩
theorem vn_ag {X : Nat × (Nat → Int32)} {d v w k g : Nat} {K G : Nat → Int64} {h : List va_E} (V : vn_ h v k K) (U : vn_ h w g G) : ∀ n i, i + n = 7 → rt_ X d 58 2 [some (.ref v), some (.ref w), some (.int (nI i))] [] h (fun r h' => r = some (.int (vn_c K G n i)) ∧ h' = h) := by
  intro n
  induction n with
  | zero =>
    intro i hi
    have hi7 : i = 7 := by omega
    subst hi7
    refine rt_n rfl ?_
    refine rt_n rfl ?_
    refine rt_gf rfl V.1 rfl rfl ?_
    refine rt_aln rfl V.2 (by decide) ?_
    refine rt_n rfl ?_
    refine rt_n rfl ?_
    exact rt_r (v := some (.int 0)) rfl rfl ⟨rfl, rfl⟩
  | succ n ih =>
    intro i hi
    have hix : ab_ix (nI i) 7 = false := tp_ix (by omega) (by decide)
    refine rt_n rfl ?_
    refine rt_n rfl ?_
    refine rt_gf rfl V.1 rfl rfl ?_
    refine rt_aln rfl V.2 (by decide) ?_
    refine rt_ic rfl (fun z => ?_) (fun _ => ?_)
    · exfalso
      have z1 : nI 7 ≤ nI i := of_decide_eq_true z
      rw [nI_leI (by omega) (by omega)] at z1
      omega
    refine rt_n rfl ?_
    refine rt_gf rfl V.1 rfl rfl ?_
    refine rt_n rfl ?_
    refine rt_lal rfl V.2 rfl hix ?_
    refine rt_n rfl ?_
    refine rt_gf rfl U.1 rfl rfl ?_
    refine rt_n rfl ?_
    refine rt_lal rfl U.2 rfl hix ?_
    rw [nI_clamp (by omega)]
    refine rt_n rfl ?_
    refine rt_if rfl (fun z => ?_) (fun z => ?_)
    · have z1 : K i = G i := (lg_0 _ _).mp (i_eq z)
      have e1 : vn_c K G (n + 1) i = vn_c K G n (i + 1) := by
        conv => lhs; unfold vn_c
        rw [if_pos z1]
      rw [e1]
      refine rt_n rfl ?_
      refine rt_n rfl ?_
      have e2 : nI i + Int32.ofInt 1 = nI (i + 1) := nI_add i 1
      show rt_ X d 58 2 [some (.ref v), some (.ref w), some (.int (nI i + Int32.ofInt 1))] [] h _
      rw [e2]
      exact ih (i + 1) (by omega)
    · have z1 : ¬ K i = G i := fun y => i_ne z ((lg_0 _ _).mpr y)
      refine rt_n rfl ?_
      refine rt_gf rfl V.1 rfl rfl ?_
      refine rt_n rfl ?_
      refine rt_lal rfl V.2 rfl hix ?_
      refine rt_n rfl ?_
      refine rt_gf rfl U.1 rfl rfl ?_
      refine rt_n rfl ?_
      refine rt_lal rfl U.2 rfl hix ?_
      rw [nI_clamp (by omega)]
      refine rt_n rfl ?_
      refine rt_if rfl (fun y => ?_) (fun y => ?_)
      · have y1 : G i ≤ K i := (lg_cmp_ge _ _).mp (of_decide_eq_true y)
        have e1 : vn_c K G (n + 1) i = 1 := by
          unfold vn_c
          rw [if_neg z1, if_neg (Int64.not_lt.mpr y1)]
        rw [e1]
        refine rt_n rfl ?_
        exact rt_r (v := some (.int 1)) rfl rfl ⟨rfl, rfl⟩
      · have y1 : ¬ G i ≤ K i := fun q => of_decide_eq_false y ((lg_cmp_ge _ _).mpr q)
        have e1 : vn_c K G (n + 1) i = -1 := by
          unfold vn_c
          rw [if_neg z1, if_pos (Int64.not_le.mp y1)]
        rw [e1]
        refine rt_n rfl ?_
        refine rt_n rfl ?_
        exact rt_r (v := some (.int (-1))) rfl rfl ⟨rfl, rfl⟩
/-- against: -1, 0 or 1 by the first keys that differ -/
theorem vn_against {X : Nat × (Nat → Int32)} {d v w k g : Nat} {K G : Nat → Int64} {h : List va_E} (V : vn_ h v k K) (U : vn_ h w g G) : rt_ X d 58 0 [some (.ref v), some (.ref w), none] [] h (fun r h' => r = some (.int (vn_c K G 7 0)) ∧ h' = h) := by
  refine rt_n rfl ?_
  refine rt_n rfl ?_
  exact vn_ag V U 7 0 rfl
