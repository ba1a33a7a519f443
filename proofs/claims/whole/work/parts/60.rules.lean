/-! THE PURE MACHINE, 9: rules for naturals, truth values, calls by equations. -/
theorem cd_t {c : Jvm.ClassFile.Cond} {x y : Int32} {p : Prop} (h : ab_cd c x y = true ↔ p) (z : ab_cd c x y = false) : ¬ p := fun q => by rw [h.mpr q] at z; cases z
theorem nI_eqI {a b : Nat} (ha : a < 2147483648) (hb : b < 2147483648) : nI a = nI b ↔ a = b := by
  constructor
  · intro h
    have h1 := congrArg Int32.toNatClampNeg h
    rwa [nI_clamp ha, nI_clamp hb] at h1
  · intro h; rw [h]
noncomputable def tB (p : Prop) : Int32 := @ite Int32 p (Classical.propDecidable p) 1 0
theorem tB_t {p : Prop} (h : p) : tB p = 1 := by unfold tB; rw [if_pos h]
theorem tB_f {p : Prop} (h : ¬ p) : tB p = 0 := by unfold tB; rw [if_neg h]
theorem tB_iff {p q : Prop} (h : p ↔ q) : tB p = tB q := by rw [propext h]
theorem tB_b (b : Bool) : bI b = tB (b = true) := by cases b with
  | false => rw [tB_f (by decide)]; rfl
  | true => rw [tB_t rfl]; rfl
theorem hs_self {h : List va_E} {a : Nat} {e e' : va_E} (c : h[a]? = some e) : (h.set a e')[a]? = some e' := by
  rw [List.getElem?_set_self (List.getElem?_eq_some_iff.mp c).1]
theorem hs_ne {h : List va_E} {a b : Nat} {e e' : va_E} (c : h[b]? = some e) (hne : a ≠ b) : (h.set a e')[b]? = some e := by
  rw [List.getElem?_set_ne hne]; exact c
theorem ha_old {h : List va_E} {a : Nat} {e : va_E} (x : List va_E) (c : h[a]? = some e) : (h ++ x)[a]? = some e := by
  rw [List.getElem?_append_left (List.getElem?_eq_some_iff.mp c).1]; exact c
theorem ha_new {h : List va_E} {e : va_E} : (h ++ [e])[h.length]? = some e := by simp
theorem ha_set {h : List va_E} {e e' : va_E} : (h ++ [e]).set h.length e' = h ++ [e'] := by simp
theorem hc_ne {h : List va_E} {a b : Nat} {e e' : va_E} (c : h[a]? = some e) (c' : h[b]? = some e') (hne : e ≠ e') : a ≠ b := fun q => by subst q; exact hne (Option.some.inj (c.symm.trans c'))
theorem hc_lt {h : List va_E} {a : Nat} {e : va_E} (c : h[a]? = some e) : a < h.length := (List.getElem?_eq_some_iff.mp c).1
section RT9
variable {X : Nat × (Nat → Int32)} {d M pc r : Nat} {L : ab_Lo} {st : List Value} {h : List va_E} {Q : Option Value → List va_E → Prop}
theorem rt_ieq {off : Int} {a b : Nat} (hi : ab_k (tb_il M) pc = some (.if_icmp .eq off, r)) (ha : a < 2147483648) (hb : b < 2147483648) (kt : a = b → rt_ X d M r L st h Q) (kf : ¬ a = b → rt_ X d M (pc + 3) L st h Q) : rt_ X d M pc L (.int (nI b) :: .int (nI a) :: st) h Q :=
  rt_ic hi (fun z => kt ((nI_eqI ha hb).mp (of_decide_eq_true z))) (fun z => kf (fun q => (of_decide_eq_false z) ((nI_eqI ha hb).mpr q)))
theorem rt_ine {off : Int} {a b : Nat} (hi : ab_k (tb_il M) pc = some (.if_icmp .ne off, r)) (ha : a < 2147483648) (hb : b < 2147483648) (kt : ¬ a = b → rt_ X d M r L st h Q) (kf : a = b → rt_ X d M (pc + 3) L st h Q) : rt_ X d M pc L (.int (nI b) :: .int (nI a) :: st) h Q :=
  rt_ic hi (fun z => kt (fun q => by subst q; simp [ab_cd] at z)) (fun z => kf (by by_cases q : a = b; exact q; exact absurd z (by have : ¬ nI a = nI b := fun w => q ((nI_eqI ha hb).mp w); simp [ab_cd, this])))
theorem rt_ilt {off : Int} {a b : Nat} (hi : ab_k (tb_il M) pc = some (.if_icmp .lt off, r)) (ha : a < 2147483648) (hb : b < 2147483648) (kt : a < b → rt_ X d M r L st h Q) (kf : b ≤ a → rt_ X d M (pc + 3) L st h Q) : rt_ X d M pc L (.int (nI b) :: .int (nI a) :: st) h Q :=
  rt_ic hi (fun z => kt ((nI_ltI ha hb).mp (of_decide_eq_true z))) (fun z => kf (Nat.le_of_not_lt fun q => (of_decide_eq_false z) ((nI_ltI ha hb).mpr q)))
theorem rt_ige {off : Int} {a b : Nat} (hi : ab_k (tb_il M) pc = some (.if_icmp .ge off, r)) (ha : a < 2147483648) (hb : b < 2147483648) (kt : b ≤ a → rt_ X d M r L st h Q) (kf : a < b → rt_ X d M (pc + 3) L st h Q) : rt_ X d M pc L (.int (nI b) :: .int (nI a) :: st) h Q :=
  rt_ic hi (fun z => kt ((nI_leI hb ha).mp (of_decide_eq_true z))) (fun z => kf (Nat.lt_of_not_le fun q => (of_decide_eq_false z) ((nI_leI hb ha).mpr q)))
theorem rt_igt {off : Int} {a b : Nat} (hi : ab_k (tb_il M) pc = some (.if_icmp .gt off, r)) (ha : a < 2147483648) (hb : b < 2147483648) (kt : b < a → rt_ X d M r L st h Q) (kf : a ≤ b → rt_ X d M (pc + 3) L st h Q) : rt_ X d M pc L (.int (nI b) :: .int (nI a) :: st) h Q :=
  rt_ic hi (fun z => kt ((nI_ltI hb ha).mp (of_decide_eq_true z))) (fun z => kf (Nat.le_of_not_lt fun q => (of_decide_eq_false z) ((nI_ltI hb ha).mpr q)))
theorem rt_ile {off : Int} {a b : Nat} (hi : ab_k (tb_il M) pc = some (.if_icmp .le off, r)) (ha : a < 2147483648) (hb : b < 2147483648) (kt : a ≤ b → rt_ X d M r L st h Q) (kf : b < a → rt_ X d M (pc + 3) L st h Q) : rt_ X d M pc L (.int (nI b) :: .int (nI a) :: st) h Q :=
  rt_ic hi (fun z => kt ((nI_leI ha hb).mp (of_decide_eq_true z))) (fun z => kf (Nat.lt_of_not_le fun q => (of_decide_eq_false z) ((nI_leI ha hb).mpr q)))
theorem rt_zeq {off : Int} {a : Nat} (hi : ab_k (tb_il M) pc = some (.ifCond .eq off, r)) (ha : a < 2147483648) (kt : a = 0 → rt_ X d M r L st h Q) (kf : 0 < a → rt_ X d M (pc + 3) L st h Q) : rt_ X d M pc L (.int (nI a) :: st) h Q :=
  rt_if hi (fun z => kt ((nI_eqI ha (by decide)).mp (of_decide_eq_true z))) (fun z => kf (Nat.pos_of_ne_zero fun q => (of_decide_eq_false z) ((nI_eqI (b := 0) ha (by decide)).mpr q)))
theorem rt_zne {off : Int} {a : Nat} (hi : ab_k (tb_il M) pc = some (.ifCond .ne off, r)) (ha : a < 2147483648) (kt : 0 < a → rt_ X d M r L st h Q) (kf : a = 0 → rt_ X d M (pc + 3) L st h Q) : rt_ X d M pc L (.int (nI a) :: st) h Q :=
  rt_if hi (fun z => kt (Nat.pos_of_ne_zero fun q => by subst q; cases z)) (fun z => kf (by by_cases q : a = 0; exact q; exact absurd z (by have : ¬ nI a = 0 := fun w => q ((nI_eqI (b := 0) ha (by decide)).mp w); simp [ab_cd, this])))
theorem rt_zgt {off : Int} {a : Nat} (hi : ab_k (tb_il M) pc = some (.ifCond .gt off, r)) (ha : a < 2147483648) (kt : 0 < a → rt_ X d M r L st h Q) (kf : a = 0 → rt_ X d M (pc + 3) L st h Q) : rt_ X d M pc L (.int (nI a) :: st) h Q :=
  rt_if hi (fun z => kt ((nI_ltI (a := 0) (by decide) ha).mp (of_decide_eq_true z))) (fun z => kf (Nat.eq_zero_of_not_pos fun q => (of_decide_eq_false z) ((nI_ltI (a := 0) (by decide) ha).mpr q)))
theorem rt_zle {off : Int} {a : Nat} (hi : ab_k (tb_il M) pc = some (.ifCond .le off, r)) (ha : a < 2147483648) (kt : a = 0 → rt_ X d M r L st h Q) (kf : 0 < a → rt_ X d M (pc + 3) L st h Q) : rt_ X d M pc L (.int (nI a) :: st) h Q :=
  rt_if hi (fun z => kt (Nat.le_zero.mp ((nI_leI (b := 0) ha (by decide)).mp (of_decide_eq_true z)))) (fun z => kf (Nat.pos_of_ne_zero fun q => (of_decide_eq_false z) ((nI_leI (b := 0) ha (by decide)).mpr (Nat.le_of_eq q))))
theorem rt_zlt {off : Int} {a : Nat} (hi : ab_k (tb_il M) pc = some (.ifCond .lt off, r)) (ha : a < 2147483648) (kf : rt_ X d M (pc + 3) L st h Q) : rt_ X d M pc L (.int (nI a) :: st) h Q :=
  rt_if hi (fun z => absurd ((nI_ltI (b := 0) ha (by decide)).mp (of_decide_eq_true z)) (Nat.not_lt_zero _)) (fun _ => kf)
theorem rt_zge {off : Int} {a : Nat} (hi : ab_k (tb_il M) pc = some (.ifCond .ge off, r)) (ha : a < 2147483648) (kt : rt_ X d M r L st h Q) : rt_ X d M pc L (.int (nI a) :: st) h Q :=
  rt_if hi (fun _ => kt) (fun z => absurd ((nI_leI (a := 0) (by decide) ha).mpr (Nat.zero_le _)) (of_decide_eq_false z))
theorem rt_be {off : Int} {b : Bool} (hi : ab_k (tb_il M) pc = some (.ifCond .eq off, r)) (kt : b = false → rt_ X d M r L st h Q) (kf : b = true → rt_ X d M (pc + 3) L st h Q) : rt_ X d M pc L (.int (bI b) :: st) h Q :=
  rt_if hi (fun z => kt (by cases b with | false => rfl | true => cases z)) (fun z => kf (by cases b with | true => rfl | false => cases z))
theorem rt_bn {off : Int} {b : Bool} (hi : ab_k (tb_il M) pc = some (.ifCond .ne off, r)) (kt : b = true → rt_ X d M r L st h Q) (kf : b = false → rt_ X d M (pc + 3) L st h Q) : rt_ X d M pc L (.int (bI b) :: st) h Q :=
  rt_if hi (fun z => kt (by cases b with | true => rfl | false => cases z)) (fun z => kf (by cases b with | false => rfl | true => cases z))
theorem rt_pe {off : Int} {p : Prop} (hi : ab_k (tb_il M) pc = some (.ifCond .eq off, r)) (kt : ¬ p → rt_ X d M r L st h Q) (kf : p → rt_ X d M (pc + 3) L st h Q) : rt_ X d M pc L (.int (tB p) :: st) h Q :=
  rt_if hi (fun z => kt (fun q => by rw [tB_t q] at z; cases z)) (fun z => kf (by by_cases q : p; exact q; rw [tB_f q] at z; cases z))
theorem rt_pn {off : Int} {p : Prop} (hi : ab_k (tb_il M) pc = some (.ifCond .ne off, r)) (kt : p → rt_ X d M r L st h Q) (kf : ¬ p → rt_ X d M (pc + 3) L st h Q) : rt_ X d M pc L (.int (tB p) :: st) h Q :=
  rt_if hi (fun z => kt (by by_cases q : p; exact q; rw [tB_f q] at z; cases z)) (fun z => kf (fun q => by rw [tB_t q] at z; cases z))
theorem rt_qe {off : Int} {x : Int32} (hi : ab_k (tb_il M) pc = some (.ifCond .eq off, r)) (kt : x = 0 → rt_ X d M r L st h Q) (kf : ¬ x = 0 → rt_ X d M (pc + 3) L st h Q) : rt_ X d M pc L (.int x :: st) h Q :=
  rt_if hi (fun z => kt (of_decide_eq_true z)) (fun z => kf (of_decide_eq_false z))
theorem rt_qn {off : Int} {x : Int32} (hi : ab_k (tb_il M) pc = some (.ifCond .ne off, r)) (kt : ¬ x = 0 → rt_ X d M r L st h Q) (kf : x = 0 → rt_ X d M (pc + 3) L st h Q) : rt_ X d M pc L (.int x :: st) h Q :=
  rt_if hi (fun z => kt (fun q => by subst q; cases z)) (fun z => kf (by by_cases q : x = 0; exact q; exact absurd z (by simp [ab_cd, q])))
theorem rt_qlt {off : Int} {x : Int32} (hi : ab_k (tb_il M) pc = some (.ifCond .lt off, r)) (kt : x < 0 → rt_ X d M r L st h Q) (kf : ¬ x < 0 → rt_ X d M (pc + 3) L st h Q) : rt_ X d M pc L (.int x :: st) h Q :=
  rt_if hi (fun z => kt (of_decide_eq_true z)) (fun z => kf (of_decide_eq_false z))
theorem rt_qge {off : Int} {x : Int32} (hi : ab_k (tb_il M) pc = some (.ifCond .ge off, r)) (kt : 0 ≤ x → rt_ X d M r L st h Q) (kf : ¬ 0 ≤ x → rt_ X d M (pc + 3) L st h Q) : rt_ X d M pc L (.int x :: st) h Q :=
  rt_if hi (fun z => kt (of_decide_eq_true z)) (fun z => kf (of_decide_eq_false z))
theorem rt_qgt {off : Int} {x : Int32} (hi : ab_k (tb_il M) pc = some (.ifCond .gt off, r)) (kt : 0 < x → rt_ X d M r L st h Q) (kf : ¬ 0 < x → rt_ X d M (pc + 3) L st h Q) : rt_ X d M pc L (.int x :: st) h Q :=
  rt_if hi (fun z => kt (of_decide_eq_true z)) (fun z => kf (of_decide_eq_false z))
theorem rt_qle {off : Int} {x : Int32} (hi : ab_k (tb_il M) pc = some (.ifCond .le off, r)) (kt : x ≤ 0 → rt_ X d M r L st h Q) (kf : ¬ x ≤ 0 → rt_ X d M (pc + 3) L st h Q) : rt_ X d M pc L (.int x :: st) h Q :=
  rt_if hi (fun z => kt (of_decide_eq_true z)) (fun z => kf (of_decide_eq_false z))
theorem rt_jeq {off : Int} {x y : Int32} (hi : ab_k (tb_il M) pc = some (.if_icmp .eq off, r)) (kt : x = y → rt_ X d M r L st h Q) (kf : ¬ x = y → rt_ X d M (pc + 3) L st h Q) : rt_ X d M pc L (.int y :: .int x :: st) h Q :=
  rt_ic hi (fun z => kt (of_decide_eq_true z)) (fun z => kf (of_decide_eq_false z))
theorem rt_jne {off : Int} {x y : Int32} (hi : ab_k (tb_il M) pc = some (.if_icmp .ne off, r)) (kt : ¬ x = y → rt_ X d M r L st h Q) (kf : x = y → rt_ X d M (pc + 3) L st h Q) : rt_ X d M pc L (.int y :: .int x :: st) h Q :=
  rt_ic hi (fun z => kt (fun q => by subst q; simp [ab_cd] at z)) (fun z => kf (by by_cases q : x = y; exact q; exact absurd z (by simp [ab_cd, q])))
theorem rt_jlt {off : Int} {x y : Int32} (hi : ab_k (tb_il M) pc = some (.if_icmp .lt off, r)) (kt : x < y → rt_ X d M r L st h Q) (kf : ¬ x < y → rt_ X d M (pc + 3) L st h Q) : rt_ X d M pc L (.int y :: .int x :: st) h Q :=
  rt_ic hi (fun z => kt (of_decide_eq_true z)) (fun z => kf (of_decide_eq_false z))
theorem rt_jge {off : Int} {x y : Int32} (hi : ab_k (tb_il M) pc = some (.if_icmp .ge off, r)) (kt : y ≤ x → rt_ X d M r L st h Q) (kf : ¬ y ≤ x → rt_ X d M (pc + 3) L st h Q) : rt_ X d M pc L (.int y :: .int x :: st) h Q :=
  rt_ic hi (fun z => kt (of_decide_eq_true z)) (fun z => kf (of_decide_eq_false z))
theorem rt_jgt {off : Int} {x y : Int32} (hi : ab_k (tb_il M) pc = some (.if_icmp .gt off, r)) (kt : y < x → rt_ X d M r L st h Q) (kf : ¬ y < x → rt_ X d M (pc + 3) L st h Q) : rt_ X d M pc L (.int y :: .int x :: st) h Q :=
  rt_ic hi (fun z => kt (of_decide_eq_true z)) (fun z => kf (of_decide_eq_false z))
theorem rt_jle {off : Int} {x y : Int32} (hi : ab_k (tb_il M) pc = some (.if_icmp .le off, r)) (kt : x ≤ y → rt_ X d M r L st h Q) (kf : ¬ x ≤ y → rt_ X d M (pc + 3) L st h Q) : rt_ X d M pc L (.int y :: .int x :: st) h Q :=
  rt_ic hi (fun z => kt (of_decide_eq_true z)) (fun z => kf (of_decide_eq_false z))
theorem lc_0 (x y : Int64) : lg_cmp x y = 0 ↔ x = y := lg_0 x y
theorem rt_le {off : Int} {x y : Int64} (hi : ab_k (tb_il M) pc = some (.ifCond .eq off, r)) (kt : x = y → rt_ X d M r L st h Q) (kf : ¬ x = y → rt_ X d M (pc + 3) L st h Q) : rt_ X d M pc L (.int (lg_cmp x y) :: st) h Q :=
  rt_qe hi (fun z => kt ((lc_0 x y).mp z)) (fun z => kf (fun q => z ((lc_0 x y).mpr q)))
theorem rt_ln {off : Int} {x y : Int64} (hi : ab_k (tb_il M) pc = some (.ifCond .ne off, r)) (kt : ¬ x = y → rt_ X d M r L st h Q) (kf : x = y → rt_ X d M (pc + 3) L st h Q) : rt_ X d M pc L (.int (lg_cmp x y) :: st) h Q :=
  rt_qn hi (fun z => kt (fun q => z ((lc_0 x y).mpr q))) (fun z => kf ((lc_0 x y).mp z))
theorem lc_lt (x y : Int64) : lg_cmp x y < 0 ↔ x < y := by
  have e1 : x < y ↔ x.toInt < y.toInt := Int64.lt_iff_toInt_lt
  have e2 : y < x ↔ y.toInt < x.toInt := Int64.lt_iff_toInt_lt
  have e3 : x = y ↔ x.toInt = y.toInt := Int64.toInt_inj.symm
  unfold lg_cmp
  by_cases h2 : y < x
  · rw [if_pos h2]
    exact ⟨fun q => absurd q (by decide), fun q => by rw [e1] at q; rw [e2] at h2; omega⟩
  · rw [if_neg h2]
    by_cases h3 : x = y
    · rw [if_pos h3]
      exact ⟨fun q => absurd q (by decide), fun q => by rw [e1] at q; rw [e3] at h3; omega⟩
    · rw [if_neg h3]
      exact ⟨fun _ => by rw [e1]; rw [e2] at h2; rw [e3] at h3; omega, fun _ => by decide⟩
theorem rt_llt {off : Int} {x y : Int64} (hi : ab_k (tb_il M) pc = some (.ifCond .lt off, r)) (kt : x < y → rt_ X d M r L st h Q) (kf : ¬ x < y → rt_ X d M (pc + 3) L st h Q) : rt_ X d M pc L (.int (lg_cmp x y) :: st) h Q :=
  rt_qlt hi (fun z => kt ((lc_lt x y).mp z)) (fun z => kf (fun q => z ((lc_lt x y).mpr q)))
theorem rt_lge {off : Int} {x y : Int64} (hi : ab_k (tb_il M) pc = some (.ifCond .ge off, r)) (kt : ¬ x < y → rt_ X d M r L st h Q) (kf : x < y → rt_ X d M (pc + 3) L st h Q) : rt_ X d M pc L (.int (lg_cmp x y) :: st) h Q :=
  rt_qge hi (fun z => kt (fun q => Int32.not_lt.mpr z ((lc_lt x y).mpr q))) (fun z => kf ((lc_lt x y).mp (Int32.not_le.mp z)))
theorem rt_add {a b : Nat} (hi : ab_k (tb_il M) pc = some (.iadd, r)) (k : rt_ X d M (pc + 1) L (.int (nI (a + b)) :: st) h Q) : rt_ X d M pc L (.int (nI b) :: .int (nI a) :: st) h Q :=
  rt_s1 hi (by simp only [ab_x, ab_n, nI_add]) k
theorem rt_mul {a b : Nat} (hi : ab_k (tb_il M) pc = some (.imul, r)) (k : rt_ X d M (pc + 1) L (.int (nI (a * b)) :: st) h Q) : rt_ X d M pc L (.int (nI b) :: .int (nI a) :: st) h Q :=
  rt_s1 hi (by simp only [ab_x, ab_n, pk_mul]) k
theorem nI_sub {a b : Nat} (hab : b ≤ a) : nI a - nI b = nI (a - b) := by
  have h1 : nI (a - b) + nI b = nI a := by rw [nI_add]; congr 1; omega
  rw [← h1]
  exact Int32.add_sub_cancel _ _
theorem rt_sub {a b : Nat} (hi : ab_k (tb_il M) pc = some (.isub, r)) (hab : b ≤ a) (k : rt_ X d M (pc + 1) L (.int (nI (a - b)) :: st) h Q) : rt_ X d M pc L (.int (nI b) :: .int (nI a) :: st) h Q :=
  rt_s1 hi (by simp only [ab_x, ab_n, nI_sub hab]) k
theorem rt_inc {i a c : Nat} (hi : ab_k (tb_il M) pc = some (.iinc i (c : Int), r)) (hL : L[i]? = some (some (.int (nI a)))) (k : rt_ X d M (pc + 3) (ab_s1 L i (.int (nI (a + c)))) st h Q) : rt_ X d M pc L st h Q :=
  rt_s1 hi (by simp only [ab_x, ab_n, hL]; rw [← nI_add]; rfl) k
theorem rt_dec {i a : Nat} (hi : ab_k (tb_il M) pc = some (.iinc i (-1), r)) (ha : 1 ≤ a) (hL : L[i]? = some (some (.int (nI a)))) (k : rt_ X d M (pc + 3) (ab_s1 L i (.int (nI (a - 1)))) st h Q) : rt_ X d M pc L st h Q :=
  rt_s1 hi (by simp only [ab_x, ab_n, hL]; rw [← nI_sub ha]; rw [show nI a - nI 1 = nI a + Int32.ofInt (-1) from Int32.sub_eq_add_neg _ _]) k
theorem rt_ialN {a t n i : Nat} {f : Nat → Int32} {v : Int32} (hi : ab_k (tb_il M) pc = some (.iaload, r)) (ha : h[a]? = some (.inl (t, n, .inl f))) (ht : tb_at[t]? = some .int) (hx : i < n) (hn : n ≤ 1000000) (hv : f i = v) (k : rt_ X d M (pc + 1) L (.int v :: st) h Q) : rt_ X d M pc L (.int (nI i) :: .ref a :: st) h Q :=
  rt_ial hi ha ht (tp_ix hx hn) (by rw [nI_clamp (by omega), hv]; exact k)
theorem rt_calN {a t n i : Nat} {f : Nat → Int32} {v : Int32} (hi : ab_k (tb_il M) pc = some (.caload, r)) (ha : h[a]? = some (.inl (t, n, .inl f))) (ht : tb_at[t]? = some .char) (hx : i < n) (hn : n ≤ 1000000) (hv : f i = v) (k : rt_ X d M (pc + 1) L (.int v :: st) h Q) : rt_ X d M pc L (.int (nI i) :: .ref a :: st) h Q :=
  rt_cal hi ha ht (tp_ix hx hn) (by rw [nI_clamp (by omega), hv]; exact k)
theorem rt_zalN {a t n i : Nat} {f : Nat → Int32} {v : Int32} (hi : ab_k (tb_il M) pc = some (.baload, r)) (ha : h[a]? = some (.inl (t, n, .inl f))) (ht : tb_at[t]? = some .boolean) (hx : i < n) (hn : n ≤ 1000000) (hv : f i = v) (k : rt_ X d M (pc + 1) L (.int v :: st) h Q) : rt_ X d M pc L (.int (nI i) :: .ref a :: st) h Q :=
  rt_zal hi ha ht (tp_ix hx hn) (by rw [nI_clamp (by omega), hv]; exact k)
theorem rt_lalN {a t n i : Nat} {f : Nat → Int64} {v : Int64} (hi : ab_k (tb_il M) pc = some (.laload, r)) (ha : h[a]? = some (.inl (t, n, .inr (.inl f)))) (ht : tb_at[t]? = some .long) (hx : i < n) (hn : n ≤ 1000000) (hv : f i = v) (k : rt_ X d M (pc + 1) L (.long v :: st) h Q) : rt_ X d M pc L (.int (nI i) :: .ref a :: st) h Q :=
  rt_lal hi ha ht (tp_ix hx hn) (by rw [nI_clamp (by omega), hv]; exact k)
theorem rt_balN {a t n i : Nat} {f : Nat → Int32} {v : Int32} (hi : ab_k (tb_il M) pc = some (.baload, r)) (ha : h[a]? = some (.inl (t, n, .inl f))) (ht : tb_at[t]? = some .byte) (hx : i < n) (hn : n ≤ 1000000) (hv : f i = v) (k : rt_ X d M (pc + 1) L (.int v :: st) h Q) : rt_ X d M pc L (.int (nI i) :: .ref a :: st) h Q :=
  rt_s1 hi (by simp only [ab_x, ab_n, ha]; rw [if_neg (fun q => by rw [ht] at q; cases q.1), if_pos ⟨ht, tp_ix hx hn⟩, nI_clamp (by omega), hv]) k
theorem rt_aalN {a t n i v : Nat} {f : Nat → Option Nat} (hi : ab_k (tb_il M) pc = some (.aaload, r)) (ha : h[a]? = some (.inl (t, n, .inr (.inr (.inr (.inr f)))))) (ht : ab_ro t = true) (hx : i < n) (hn : n ≤ 1000000) (hv : f i = some v) (k : rt_ X d M (pc + 1) L (.ref v :: st) h Q) : rt_ X d M pc L (.int (nI i) :: .ref a :: st) h Q :=
  rt_aal hi ha ht (tp_ix hx hn) (by rw [nI_clamp (by omega), hv]; exact k)
theorem rt_aalO {a t n i : Nat} {f : Nat → Option Nat} (hi : ab_k (tb_il M) pc = some (.aaload, r)) (ha : h[a]? = some (.inl (t, n, .inr (.inr (.inr (.inr f)))))) (ht : ab_ro t = true) (hx : i < n) (hn : n ≤ 1000000) (hv : f i = none) (k : rt_ X d M (pc + 1) L (.null :: st) h Q) : rt_ X d M pc L (.int (nI i) :: .ref a :: st) h Q :=
  rt_aal hi ha ht (tp_ix hx hn) (by rw [nI_clamp (by omega), hv]; exact k)
theorem rt_iasN {a t n i : Nat} {f : Nat → Int32} {x : Int32} (hi : ab_k (tb_il M) pc = some (.iastore, r)) (ha : h[a]? = some (.inl (t, n, .inl f))) (ht : tb_at[t]? = some .int) (hx : i < n) (hn : n ≤ 1000000) (k : rt_ X d M (pc + 1) L st (h.set a (.inl (t, n, .inl (upd f i x)))) Q) : rt_ X d M pc L (.int x :: .int (nI i) :: .ref a :: st) h Q :=
  rt_ias hi ha ht (tp_ix hx hn) (by rw [nI_clamp (by omega)]; exact k)
theorem rt_lasN {a t n i : Nat} {f : Nat → Int64} {x : Int64} (hi : ab_k (tb_il M) pc = some (.lastore, r)) (ha : h[a]? = some (.inl (t, n, .inr (.inl f)))) (ht : tb_at[t]? = some .long) (hx : i < n) (hn : n ≤ 1000000) (k : rt_ X d M (pc + 1) L st (h.set a (.inl (t, n, .inr (.inl (vp_updL f i x))))) Q) : rt_ X d M pc L (.long x :: .int (nI i) :: .ref a :: st) h Q :=
  rt_las hi ha ht (tp_ix hx hn) (by rw [nI_clamp (by omega)]; exact k)
theorem rt_zasN {a t n i : Nat} {f : Nat → Int32} {x : Int32} (hi : ab_k (tb_il M) pc = some (.bastore, r)) (ha : h[a]? = some (.inl (t, n, .inl f))) (ht : tb_at[t]? = some .boolean) (hx : i < n) (hn : n ≤ 1000000) (k : rt_ X d M (pc + 1) L st (h.set a (.inl (t, n, .inl (upd f i (vp_nar .boolean x))))) Q) : rt_ X d M pc L (.int x :: .int (nI i) :: .ref a :: st) h Q :=
  rt_zas hi ha ht (tp_ix hx hn) (by rw [nI_clamp (by omega)]; exact k)
theorem rt_aasN {a v t n i ci : Nat} {vs : List Value} {f : Nat → Option Nat} (hi : ab_k (tb_il M) pc = some (.aastore, r)) (ha : h[a]? = some (.inl (t, n, .inr (.inr (.inr (.inr f)))))) (hv : h[v]? = some (.inr (ci, vs))) (ht : tb_at[t]? = (tb_cl[ci]?).map (fun q => FieldType.object q.1) ∧ ab_ro t = true) (hx : i < n) (hn : n ≤ 1000000) (k : rt_ X d M (pc + 1) L st (h.set a (.inl (t, n, .inr (.inr (.inr (.inr (va_up f i (some v)))))))) Q) : rt_ X d M pc L (.ref v :: .int (nI i) :: .ref a :: st) h Q :=
  rt_aas hi ha hv ht (tp_ix hx hn) (by rw [nI_clamp (by omega)]; exact k)
theorem rt_aaO {a t n i : Nat} {f : Nat → Option Nat} (hi : ab_k (tb_il M) pc = some (.aastore, r)) (ha : h[a]? = some (.inl (t, n, .inr (.inr (.inr (.inr f)))))) (ht : ab_ro t = true) (hx : i < n) (hn : n ≤ 1000000) (k : rt_ X d M (pc + 1) L st (h.set a (.inl (t, n, .inr (.inr (.inr (.inr (va_up f i none))))))) Q) : rt_ X d M pc L (.null :: .int (nI i) :: .ref a :: st) h Q :=
  rt_aaN hi ha ht (tp_ix hx hn) (by rw [nI_clamp (by omega)]; exact k)
/-- calls whose contract says what comes back and what the heap is -/
theorem rt_cvE {idx a ci : Nat} {fs : List Value} {as rest : List Value} {v : Option Value} {h' : List va_E} (hi : ab_k (tb_il M) pc = some (.invokevirtual idx, r)) (h8 : ¬ (r = 8888 ∨ tb_st r = true)) (ha : h[a]? = some (.inr (ci, fs))) (hc : ci = tb_oc r) (hd : st.drop (tb_np r) = .ref a :: rest) (has : .ref a :: (st.take (tb_np r)).reverse = as) (hk : ab_cok r as rest = true) (k1 : rt_ X d r 0 (ab_en as ++ List.replicate (tb_max r - (ab_en as).length) none) [] h (fun w h9 => w = v ∧ h9 = h')) (k2 : rt_ X (d + 1) M (pc + 3) L (v.toList ++ rest) h' Q) : rt_ X (d + 1) M pc L st h Q :=
  rt_cv hi h8 ha hc hd has hk k1 (fun w h9 q => by rw [q.1, q.2]; exact k2)
theorem rt_cE {M' : Nat} {as rest : List Value} {v : Option Value} {h' : List va_E} (hs : ab_s X M pc L st h = some (.inr (.inl (M', as, rest)))) (hc : ab_cok M' as rest = true) (k1 : rt_ X d M' 0 (ab_en as ++ List.replicate (tb_max M' - (ab_en as).length) none) [] h (fun w h9 => w = v ∧ h9 = h')) (k2 : rt_ X (d + 1) M (pc + 3) L (v.toList ++ rest) h' Q) : rt_ X (d + 1) M pc L st h Q :=
  rt_c hs hc k1 (fun w h9 q => by rw [q.1, q.2]; exact k2)
theorem rt_cvH {idx a ci : Nat} {fs : List Value} {as rest : List Value} {P : Option Value → Prop} {h' : List va_E} (hi : ab_k (tb_il M) pc = some (.invokevirtual idx, r)) (h8 : ¬ (r = 8888 ∨ tb_st r = true)) (ha : h[a]? = some (.inr (ci, fs))) (hc : ci = tb_oc r) (hd : st.drop (tb_np r) = .ref a :: rest) (has : .ref a :: (st.take (tb_np r)).reverse = as) (hk : ab_cok r as rest = true) (k1 : rt_ X d r 0 (ab_en as ++ List.replicate (tb_max r - (ab_en as).length) none) [] h (fun w h9 => h9 = h' ∧ P w)) (k2 : ∀ v, P v → rt_ X (d + 1) M (pc + 3) L (v.toList ++ rest) h' Q) : rt_ X (d + 1) M pc L st h Q :=
  rt_cv hi h8 ha hc hd has hk k1 (fun w h9 q => by rw [q.1]; exact k2 w q.2)
theorem rt_cH {M' : Nat} {as rest : List Value} {P : Option Value → Prop} {h' : List va_E} (hs : ab_s X M pc L st h = some (.inr (.inl (M', as, rest)))) (hc : ab_cok M' as rest = true) (k1 : rt_ X d M' 0 (ab_en as ++ List.replicate (tb_max M' - (ab_en as).length) none) [] h (fun w h9 => h9 = h' ∧ P w)) (k2 : ∀ v, P v → rt_ X (d + 1) M (pc + 3) L (v.toList ++ rest) h' Q) : rt_ X (d + 1) M pc L st h Q :=
  rt_c hs hc k1 (fun w h9 q => by rw [q.1]; exact k2 w q.2)
theorem rt_ivi {idx a ci : Nat} {fs : List Value} {as rest : List Value} (hi : ab_k (tb_il M) pc = some (.invokevirtual idx, r)) (h8 : ¬ (r = 8888 ∨ tb_st r = true)) (ha : h[a]? = some (.inr (ci, fs))) (hc : ci = tb_oc r) (hd : st.drop (tb_np r) = .ref a :: rest) (has : .ref a :: (st.take (tb_np r)).reverse = as) (hk : ab_cok r as rest = true) (k : rt_ X d r 0 (ab_en as ++ List.replicate (tb_max r - (ab_en as).length) none) [] h (fun v h' => rt_ X (d + 1) M (pc + 3) L (v.toList ++ rest) h' Q)) : rt_ X (d + 1) M pc L st h Q :=
  rt_cv hi h8 ha hc hd has hk k (fun _ _ q => q)
end RT9
