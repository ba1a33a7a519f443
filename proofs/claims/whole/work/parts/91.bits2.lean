/-! THE BITS OF A MASK, 2. -/
def tN (x : Int32) : Nat := x.toBitVec.toNat
theorem tN_lt (x : Int32) : tN x < 4294967296 := x.toBitVec.isLt
theorem tN_eq {x y : Int32} (h : tN x = tN y) : x = y := Int32.toBitVec_inj.mp (BitVec.eq_of_toNat_eq h)
theorem tN_and (x y : Int32) : tN (x &&& y) = tN x &&& tN y := by unfold tN; rw [Int32.toBitVec_and, BitVec.toNat_and]
theorem tN_add {x y : Int32} (h : tN x + tN y < 4294967296) : tN (x + y) = tN x + tN y := by
  unfold tN at *
  rw [Int32.toBitVec_add, BitVec.toNat_add, Nat.mod_eq_of_lt (by omega)]
theorem tN_sub {x y : Int32} (h : tN y ≤ tN x) : tN (x - y) = tN x - tN y := by
  have h1 := tN_lt x
  unfold tN at *
  rw [Int32.toBitVec_sub, BitVec.toNat_sub]
  omega
theorem tN_sh (x : Int32) (k : Nat) (hk : k = 1 ∨ k = 2 ∨ k = 4 ∨ k = 8 ∨ k = 16) : tN (x.toUInt32 >>> ((nI k).toUInt32 &&& Int32.toUInt32 31)).toInt32 = tN x / 2 ^ k := by
  have e : (((nI k).toUInt32 &&& Int32.toUInt32 31).toBitVec % 32).toNat = k := by
    rcases hk with rfl | rfl | rfl | rfl | rfl <;> decide
  show ((x.toUInt32 >>> ((nI k).toUInt32 &&& Int32.toUInt32 31)).toBitVec).toNat = _
  rw [UInt32.toBitVec_shiftRight, BitVec.ushiftRight_eq', BitVec.toNat_ushiftRight, e, Nat.shiftRight_eq_div_pow, Int32.toBitVec_toUInt32]
  rfl
theorem tN_nI {n : Nat} (h : n < 4294967296) : tN (nI n) = n := by
  show (Int32.ofNat n).toBitVec.toNat = n
  rw [Int32.toBitVec_ofNat', BitVec.toNat_ofNat]
  exact Nat.mod_eq_of_lt h
theorem crd_cNt {p : Nat → Prop} {u : Nat} : ∀ n, (∀ i, i < n → (u / 2 ^ i % 2 = 1 ↔ p i)) → crd p n = cNt n u
  | 0, _ => rfl
  | n + 1, h => by
    have e := crd_cNt n (fun i hi => h i (by omega))
    have q := h n (by omega)
    rw [cNt_s]
    by_cases w : p n
    · rw [crd_t w, e, q.mpr w]
    · have : u / 2 ^ n % 2 = 0 := by
        by_cases z : u / 2 ^ n % 2 = 1
        · exact absurd (q.mp z) w
        · omega
      rw [crd_f w, e, this, Nat.add_zero]
theorem msk_tN {p : Nat → Prop} : crd p 32 = cNt 32 (tN (msk p)) := by
  refine crd_cNt 32 (fun i hi => ?_)
  have h1 := bt_msk (p := p) hi
  unfold bt at h1
  rw [← h1, BitVec.getLsbD, Nat.testBit_eq_decide_div_mod_eq]
  simp only [decide_eq_true_eq]
  exact Iff.rfl
theorem bc_i (x : Int32) : ∀ i1 i2 i3 i4 i5 : Int32, x - ((x.toUInt32 >>> ((nI 1).toUInt32 &&& Int32.toUInt32 31)).toInt32 &&& nI 1431655765) = i1 → (i1 &&& nI 858993459) + ((i1.toUInt32 >>> ((nI 2).toUInt32 &&& Int32.toUInt32 31)).toInt32 &&& nI 858993459) = i2 → (i2 + (i2.toUInt32 >>> ((nI 4).toUInt32 &&& Int32.toUInt32 31)).toInt32) &&& nI 252645135 = i3 → i3 + (i3.toUInt32 >>> ((nI 8).toUInt32 &&& Int32.toUInt32 31)).toInt32 = i4 → i4 + (i4.toUInt32 >>> ((nI 16).toUInt32 &&& Int32.toUInt32 31)).toInt32 = i5 → i5 &&& nI 63 = nI (cNt 32 (tN x)) := by
  rintro i1 i2 i3 i4 i5 rfl rfl rfl rfl rfl
  obtain ⟨j1, j2, j3, h1, h2, h3, h4, h5, h6, h7, h8, h9, h10⟩ := bc_all (tN x) (tN_lt x)
  have hu := tN_lt x
  have k1 : tN (x - ((x.toUInt32 >>> ((nI 1).toUInt32 &&& Int32.toUInt32 31)).toInt32 &&& nI 1431655765)) = j1 := by
    rw [tN_sub (by rw [tN_and, tN_sh x 1 (by omega), tN_nI (by decide)]; exact h2), tN_and, tN_sh x 1 (by omega), tN_nI (by decide)]
    exact h1
  generalize x - ((x.toUInt32 >>> ((nI 1).toUInt32 &&& Int32.toUInt32 31)).toInt32 &&& nI 1431655765) = i1 at *
  have k2 : tN ((i1 &&& nI 858993459) + ((i1.toUInt32 >>> ((nI 2).toUInt32 &&& Int32.toUInt32 31)).toInt32 &&& nI 858993459)) = j2 := by
    rw [tN_add (by rw [tN_and, tN_and, tN_sh i1 2 (by omega), tN_nI (by decide), k1]; exact Nat.lt_of_le_of_lt (Nat.le_of_eq h4) h5), tN_and, tN_and, tN_sh i1 2 (by omega), tN_nI (by decide), k1]
    exact h4
  generalize (i1 &&& nI 858993459) + ((i1.toUInt32 >>> ((nI 2).toUInt32 &&& Int32.toUInt32 31)).toInt32 &&& nI 858993459) = i2 at *
  have k3 : tN ((i2 + (i2.toUInt32 >>> ((nI 4).toUInt32 &&& Int32.toUInt32 31)).toInt32) &&& nI 252645135) = j3 := by
    rw [tN_and, tN_add (by rw [tN_sh i2 4 (by omega), k2]; exact h7), tN_sh i2 4 (by omega), tN_nI (by decide), k2]
    exact h6
  generalize (i2 + (i2.toUInt32 >>> ((nI 4).toUInt32 &&& Int32.toUInt32 31)).toInt32) &&& nI 252645135 = i3 at *
  have k4 : tN (i3 + (i3.toUInt32 >>> ((nI 8).toUInt32 &&& Int32.toUInt32 31)).toInt32) = j3 + j3 / 256 := by
    rw [tN_add (by rw [tN_sh i3 8 (by omega), k3]; exact h8), tN_sh i3 8 (by omega), k3]
  generalize i3 + (i3.toUInt32 >>> ((nI 8).toUInt32 &&& Int32.toUInt32 31)).toInt32 = i4 at *
  have k5 : tN (i4 + (i4.toUInt32 >>> ((nI 16).toUInt32 &&& Int32.toUInt32 31)).toInt32) = (j3 + j3 / 256) + (j3 + j3 / 256) / 65536 := by
    rw [tN_add (by rw [tN_sh i4 16 (by omega), k4]; exact h9), tN_sh i4 16 (by omega), k4]
  generalize i4 + (i4.toUInt32 >>> ((nI 16).toUInt32 &&& Int32.toUInt32 31)).toInt32 = i5 at *
  apply tN_eq
  have l : cNt 32 (tN x) < 4294967296 := by
    rw [← h10, and_63]; omega
  rw [tN_and, tN_nI (by decide), k5, h10, tN_nI l]
set_option maxRecDepth 10000 in
theorem bitc (X : Nat × (Nat → Int32)) (d : Nat) (h : List va_E) (p : Nat → Prop) : rt_ X d 112 0 [some (.int (msk p))] [] h (fun v h' => v = some (.int (nI (crd p 32))) ∧ h' = h) := by
  rw [msk_tN]
  generalize msk p = x
  refine rt_k (k := 8) (pc' := 10) (L' := [some (.int (x - ((x.toUInt32 >>> ((nI 1).toUInt32 &&& Int32.toUInt32 31)).toInt32 &&& nI 1431655765)))]) (st' := []) (h' := h) (fun _ => rfl) ?_
  generalize e1 : x - ((x.toUInt32 >>> ((nI 1).toUInt32 &&& Int32.toUInt32 31)).toInt32 &&& nI 1431655765) = i1
  refine rt_k (k := 10) (pc' := 24) (L' := [some (.int ((i1 &&& nI 858993459) + ((i1.toUInt32 >>> ((nI 2).toUInt32 &&& Int32.toUInt32 31)).toInt32 &&& nI 858993459)))]) (st' := []) (h' := h) (fun _ => rfl) ?_
  generalize e2 : (i1 &&& nI 858993459) + ((i1.toUInt32 >>> ((nI 2).toUInt32 &&& Int32.toUInt32 31)).toInt32 &&& nI 858993459) = i2
  refine rt_k (k := 8) (pc' := 34) (L' := [some (.int ((i2 + (i2.toUInt32 >>> ((nI 4).toUInt32 &&& Int32.toUInt32 31)).toInt32) &&& nI 252645135))]) (st' := []) (h' := h) (fun _ => rfl) ?_
  generalize e3 : (i2 + (i2.toUInt32 >>> ((nI 4).toUInt32 &&& Int32.toUInt32 31)).toInt32) &&& nI 252645135 = i3
  refine rt_k (k := 6) (pc' := 41) (L' := [some (.int (i3 + (i3.toUInt32 >>> ((nI 8).toUInt32 &&& Int32.toUInt32 31)).toInt32))]) (st' := []) (h' := h) (fun _ => rfl) ?_
  generalize e4 : i3 + (i3.toUInt32 >>> ((nI 8).toUInt32 &&& Int32.toUInt32 31)).toInt32 = i4
  refine rt_k (k := 6) (pc' := 48) (L' := [some (.int (i4 + (i4.toUInt32 >>> ((nI 16).toUInt32 &&& Int32.toUInt32 31)).toInt32))]) (st' := []) (h' := h) (fun _ => rfl) ?_
  generalize e5 : i4 + (i4.toUInt32 >>> ((nI 16).toUInt32 &&& Int32.toUInt32 31)).toInt32 = i5
  refine rt_k (k := 3) (pc' := 52) (L' := [some (.int i5)]) (st' := [.int (i5 &&& nI 63)]) (h' := h) (fun _ => rfl) ?_
  rw [bc_i x i1 i2 i3 i4 i5 e1 e2 e3 e4 e5]
  exact rt_r (v := some (.int (nI (cNt 32 (tN x))))) rfl rfl ⟨rfl, rfl⟩
