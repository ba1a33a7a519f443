/-! MASKS: an int as a set of places below 32. -/
noncomputable def bm (p : Nat → Prop) : Nat → BitVec 32
  | 0 => 0#32
  | n + 1 => bm p n ||| @ite (BitVec 32) (p n) (Classical.propDecidable _) (BitVec.twoPow 32 n) 0#32
noncomputable def msk (p : Nat → Prop) : Int32 := Int32.ofBitVec (bm p 32)
def bt (m : Int32) (i : Nat) : Prop := m.toBitVec.getLsbD i = true
theorem bm_bit (p : Nat → Prop) : ∀ (n i : Nat), i < 32 → ((bm p n).getLsbD i = true ↔ i < n ∧ p i)
  | 0, i, _ => by unfold bm; simp
  | n + 1, i, hi => by
    unfold bm
    rw [BitVec.getLsbD_or, Bool.or_eq_true, bm_bit p n i hi]
    by_cases q : p n
    · rw [if_pos q, BitVec.getLsbD_twoPow]
      simp only [Bool.and_eq_true, decide_eq_true_eq]
      constructor
      · rintro (⟨a, b⟩ | ⟨a, b⟩)
        · exact ⟨by omega, b⟩
        · subst b; exact ⟨by omega, q⟩
      · rintro ⟨a, b⟩
        by_cases e : i = n
        · exact Or.inr ⟨by omega, e.symm⟩
        · exact Or.inl ⟨by omega, b⟩
    · rw [if_neg q]
      constructor
      · rintro (⟨a, b⟩ | a)
        · exact ⟨by omega, b⟩
        · simp at a
      · rintro ⟨a, b⟩
        refine Or.inl ⟨?_, b⟩
        by_cases e : i = n
        · subst e; exact absurd b q
        · omega
theorem bt_msk {p : Nat → Prop} {i : Nat} (hi : i < 32) : bt (msk p) i ↔ p i := by
  unfold bt msk
  rw [Int32.toBitVec_ofBitVec, bm_bit p 32 i hi]
  exact ⟨fun q => q.2, fun q => ⟨hi, q⟩⟩
theorem bt_ext {a b : Int32} (h : ∀ i, i < 32 → (bt a i ↔ bt b i)) : a = b := by
  rw [← Int32.toBitVec_inj]
  apply BitVec.eq_of_getLsbD_eq
  intro i hi
  have := h i hi
  unfold bt at this
  cases ha : a.toBitVec.getLsbD i <;> cases hb : b.toBitVec.getLsbD i <;> simp_all
theorem msk_eq {p q : Nat → Prop} : msk p = msk q ↔ ∀ i, i < 32 → (p i ↔ q i) := by
  constructor
  · intro h i hi
    rw [← bt_msk (p := p) hi, ← bt_msk (p := q) hi, h]
  · intro h
    exact bt_ext fun i hi => by rw [bt_msk hi, bt_msk hi]; exact h i hi
theorem msk_cg {p q : Nat → Prop} (h : ∀ i, i < 32 → (p i ↔ q i)) : msk p = msk q := msk_eq.mpr h
theorem msk_bt (m : Int32) : msk (bt m) = m := bt_ext fun i hi => bt_msk hi
theorem msk_0 : msk (fun _ => False) = 0 := bt_ext fun i hi => by
  rw [bt_msk hi]
  unfold bt
  simp
theorem msk_z {p : Nat → Prop} : msk p = 0 ↔ ∀ i, i < 32 → ¬ p i := by
  rw [← msk_0, msk_eq]
  simp
theorem msk_and (p q : Nat → Prop) : msk p &&& msk q = msk (fun i => p i ∧ q i) := bt_ext fun i hi => by
  rw [bt_msk hi]
  unfold bt
  rw [Int32.toBitVec_and, BitVec.getLsbD_and, Bool.and_eq_true]
  exact and_congr (bt_msk hi) (bt_msk hi)
theorem msk_or (p q : Nat → Prop) : msk p ||| msk q = msk (fun i => p i ∨ q i) := bt_ext fun i hi => by
  rw [bt_msk hi]
  unfold bt
  rw [Int32.toBitVec_or, BitVec.getLsbD_or, Bool.or_eq_true]
  exact or_congr (bt_msk hi) (bt_msk hi)
theorem msk_not (p : Nat → Prop) : msk p ^^^ (-1) = msk (fun i => ¬ p i) := bt_ext fun i hi => by
  rw [bt_msk hi]
  unfold bt
  rw [Int32.toBitVec_xor, BitVec.getLsbD_xor]
  have e1 : (-1 : Int32).toBitVec.getLsbD i = true := by
    rw [show (-1 : Int32).toBitVec = BitVec.allOnes 32 from by decide, BitVec.getLsbD_allOnes]
    simpa using hi
  rw [e1]
  have := bt_msk (p := p) hi
  unfold bt at this
  cases hx : (msk p).toBitVec.getLsbD i <;> simp_all
set_option maxRecDepth 4000 in
theorem msk_bit {p : Nat} (hp : p < 32) : nI 1 <<< (nI p &&& 31) = msk (fun i => i = p) := bt_ext fun i hi => by
  have e : ∀ q : Fin 32, (nI 1 <<< (nI q.1 &&& 31)).toBitVec = BitVec.twoPow 32 q.1 := by decide
  rw [bt_msk hi]
  unfold bt
  rw [e ⟨p, hp⟩, BitVec.getLsbD_twoPow]
  simp only [Bool.and_eq_true, decide_eq_true_eq]
  exact ⟨fun q => q.2.symm, fun q => ⟨hp, q.symm⟩⟩
set_option maxRecDepth 4000 in
theorem msk_in {p : Nat → Prop} {q : Nat} (hq : q < 32) : (((msk p).toUInt32 >>> ((nI q).toUInt32 &&& Int32.toUInt32 31)).toInt32 &&& nI 1 = 0) ↔ ¬ p q := by
  have e : ∀ q : Fin 32, (((nI q.1).toUInt32 &&& Int32.toUInt32 31).toBitVec % 32).toNat = q.1 := by decide
  have e2 : ∀ x : Int32, x &&& nI 1 = 0 ↔ x.toBitVec.getLsbD 0 = false := fun x => by
    rw [← Int32.toBitVec_inj]
    constructor
    · intro h
      have := congrArg (fun z => z.getLsbD 0) h
      simp only [Int32.toBitVec_and] at this
      rw [BitVec.getLsbD_and, show (nI 1).toBitVec = 1#32 from by decide] at this
      simpa using this
    · intro h
      apply BitVec.eq_of_getLsbD_eq
      intro i hi
      rw [Int32.toBitVec_and, BitVec.getLsbD_and, show (nI 1).toBitVec = 1#32 from by decide, BitVec.getLsbD_one, show (0 : Int32).toBitVec = 0#32 from by decide]
      by_cases z : i = 0
      · subst z; rw [h]; simp
      · simp [z]
  rw [e2]
  have e3 : (((msk p).toUInt32 >>> ((nI q).toUInt32 &&& Int32.toUInt32 31)).toInt32).toBitVec.getLsbD 0 = (msk p).toBitVec.getLsbD q := by
    show ((msk p).toUInt32 >>> ((nI q).toUInt32 &&& Int32.toUInt32 31)).toBitVec.getLsbD 0 = _
    rw [UInt32.toBitVec_shiftRight, BitVec.ushiftRight_eq', BitVec.getLsbD_ushiftRight, e ⟨q, hq⟩, Int32.toBitVec_toUInt32]
    rfl
  rw [e3]
  have := bt_msk (p := p) hq
  unfold bt at this
  cases hx : (msk p).toBitVec.getLsbD q <;> simp_all
section MK
variable {X : Nat × (Nat → Int32)} {d M pc r : Nat} {L : ab_Lo} {st : List Value} {h : List va_E} {Q : Option Value → List va_E → Prop} {p q : Nat → Prop}
theorem rt_mand (hi : ab_k (tb_il M) pc = some (.iand, r)) (k : rt_ X d M (pc + 1) L (.int (msk (fun i => p i ∧ q i)) :: st) h Q) : rt_ X d M pc L (.int (msk q) :: .int (msk p) :: st) h Q :=
  rt_s1 hi (by simp only [ab_x, ab_n, msk_and]) k
theorem rt_mor (hi : ab_k (tb_il M) pc = some (.ior, r)) (k : rt_ X d M (pc + 1) L (.int (msk (fun i => p i ∨ q i)) :: st) h Q) : rt_ X d M pc L (.int (msk q) :: .int (msk p) :: st) h Q :=
  rt_s1 hi (by simp only [ab_x, ab_n, msk_or]) k
theorem rt_mnot (hi : ab_k (tb_il M) pc = some (.ixor, r)) (k : rt_ X d M (pc + 1) L (.int (msk (fun i => ¬ p i)) :: st) h Q) : rt_ X d M pc L (.int (-1) :: .int (msk p) :: st) h Q :=
  rt_s1 hi (by simp only [ab_x, ab_n, msk_not]) k
theorem rt_mbit {a : Nat} (hi : ab_k (tb_il M) pc = some (.ishl, r)) (ha : a < 32) (k : rt_ X d M (pc + 1) L (.int (msk (fun i => i = a)) :: st) h Q) : rt_ X d M pc L (.int (nI a) :: .int (nI 1) :: st) h Q :=
  rt_s1 hi (by simp only [ab_x, ab_n, msk_bit ha]) k
theorem rt_me {off : Int} (hi : ab_k (tb_il M) pc = some (.ifCond .eq off, r)) (kt : (∀ i, i < 32 → ¬ p i) → rt_ X d M r L st h Q) (kf : (∃ i, i < 32 ∧ p i) → rt_ X d M (pc + 3) L st h Q) : rt_ X d M pc L (.int (msk p) :: st) h Q :=
  rt_qe hi (fun z => kt (msk_z.mp z)) (fun z => kf (Classical.byContradiction fun w => z (msk_z.mpr fun i hi hp => w ⟨i, hi, hp⟩)))
theorem rt_mn {off : Int} (hi : ab_k (tb_il M) pc = some (.ifCond .ne off, r)) (kt : (∃ i, i < 32 ∧ p i) → rt_ X d M r L st h Q) (kf : (∀ i, i < 32 → ¬ p i) → rt_ X d M (pc + 3) L st h Q) : rt_ X d M pc L (.int (msk p) :: st) h Q :=
  rt_qn hi (fun z => kt (Classical.byContradiction fun w => z (msk_z.mpr fun i hi hp => w ⟨i, hi, hp⟩))) (fun z => kf (msk_z.mp z))
theorem rt_mjne {off : Int} (hi : ab_k (tb_il M) pc = some (.if_icmp .ne off, r)) (kt : (¬ ∀ i, i < 32 → (p i ↔ q i)) → rt_ X d M r L st h Q) (kf : (∀ i, i < 32 → (p i ↔ q i)) → rt_ X d M (pc + 3) L st h Q) : rt_ X d M pc L (.int (msk q) :: .int (msk p) :: st) h Q :=
  rt_jne hi (fun z => kt (fun w => z (msk_cg w))) (fun z => kf (msk_eq.mp z))
theorem isin {i : Nat} (hi : i < 32) (p : Nat → Prop) : rt_ X d 10 0 [some (.int (msk p)), some (.int (nI i))] [] h (fun v h' => v = some (.int (tB (p i))) ∧ h' = h) := by
  refine rt_k (k := 5) (pc' := 5) (L' := [some (.int (msk p)), some (.int (nI i))]) (st' := [.int (((msk p).toUInt32 >>> ((nI i).toUInt32 &&& Int32.toUInt32 31)).toInt32 &&& nI 1)]) (h' := h) (fun _ => rfl) ?_
  refine rt_qe rfl (fun z => ?_) (fun z => ?_)
  · refine rt_n rfl ?_
    exact rt_r (v := some (.int (nI 0))) rfl rfl ⟨ret0 ((msk_in hi).mp z), rfl⟩
  · refine rt_n rfl ?_
    refine rt_n rfl ?_
    exact rt_r (v := some (.int (nI 1))) rfl rfl ⟨ret1 (Classical.byContradiction fun w => z ((msk_in hi).mpr w)), rfl⟩
end MK
