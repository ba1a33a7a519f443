/-! THE READER, 2: digits, marks, numbers, packed bytes. -/
section RE
variable {X : Nat × (Nat → Int32)} {d : Nat} {h : List va_E} {Q : Option Value → List va_E → Prop} {T : List Nat} {f b p : Nat} {ws : List kW}
theorem rd_dig {c : Nat} (hc : c < 256) : rt_ X d 34 0 [some (.int (nI c))] [] h (fun v h' => v = some (.int (tB (dg c = true))) ∧ h' = h) := by
  refine rt_k (k := 2) (pc' := 3) (L' := [some (.int (nI c))]) (st' := [.int (nI 48), .int (nI c)]) (h' := h) (fun _ => rfl) ?_
  refine rt_ilt rfl (by omega) (by decide) (fun z => ?_) (fun z => ?_)
  ·
    refine rt_k (k := 1) (pc' := 17) (L' := [some (.int (nI c))]) (st' := [.int (nI 0)]) (h' := h) (fun _ => rfl) ?_
    exact rt_r (v := some (.int (nI 0))) rfl rfl (⟨ret0 (fun w => by have := of_decide_eq_true w; omega), rfl⟩)
  refine rt_k (k := 2) (pc' := 9) (L' := [some (.int (nI c))]) (st' := [.int (nI 57), .int (nI c)]) (h' := h) (fun _ => rfl) ?_
  refine rt_igt rfl (by omega) (by decide) (fun z2 => ?_) (fun z2 => ?_)
  ·
    refine rt_k (k := 1) (pc' := 17) (L' := [some (.int (nI c))]) (st' := [.int (nI 0)]) (h' := h) (fun _ => rfl) ?_
    exact rt_r (v := some (.int (nI 0))) rfl rfl (⟨ret0 (fun w => by have := of_decide_eq_true w; omega), rfl⟩)
  refine rt_k (k := 2) (pc' := 17) (L' := [some (.int (nI c))]) (st' := [.int (nI 1)]) (h' := h) (fun _ => rfl) ?_
  exact rt_r (v := some (.int (nI 1))) rfl rfl (⟨ret1 (decide_eq_true ⟨z, z2⟩), rfl⟩)
theorem mkb_iff {c : Nat} : mkb c = true ↔ (48 ≤ c ∧ c ≤ 57) ∨ (97 ≤ c ∧ c ≤ 122) ∨ (65 ≤ c ∧ c ≤ 90) ∨ c = 45 := by
  unfold mkb dg alp
  simp only [Bool.or_eq_true, decide_eq_true_eq]
  omega
theorem rd_mkb {c : Nat} (hc : c < 256) : rt_ X d 39 0 [some (.int (nI c))] [] h (fun v h' => v = some (.int (tB (mkb c = true))) ∧ h' = h) := by
  have yes : mkb c = true → rt_ X d 39 42 [some (.int (nI c))] [] h (fun v h' => v = some (.int (tB (mkb c = true))) ∧ h' = h) := fun w => by
    refine rt_k (k := 2) (pc' := 47) (L' := [some (.int (nI c))]) (st' := [.int (nI 1)]) (h' := h) (fun _ => rfl) ?_
    exact rt_r (v := some (.int (nI 1))) rfl rfl (⟨ret1 w, rfl⟩)
  have t3 : ¬ (48 ≤ c ∧ c ≤ 57) → ¬ (97 ≤ c ∧ c ≤ 122) → ¬ (65 ≤ c ∧ c ≤ 90) → rt_ X d 39 36 [some (.int (nI c))] [] h (fun v h' => v = some (.int (tB (mkb c = true))) ∧ h' = h) := fun w1 w2 w3 => by
    refine rt_k (k := 2) (pc' := 39) (L' := [some (.int (nI c))]) (st' := [.int (nI 45), .int (nI c)]) (h' := h) (fun _ => rfl) ?_
    refine rt_ine rfl (by omega) (by decide) (fun z => ?_) (fun z => ?_)
    ·
      refine rt_k (k := 1) (pc' := 47) (L' := [some (.int (nI c))]) (st' := [.int (nI 0)]) (h' := h) (fun _ => rfl) ?_
      exact rt_r (v := some (.int (nI 0))) rfl rfl (⟨ret0 (fun w => by have := mkb_iff.mp w; omega), rfl⟩)
    exact yes (mkb_iff.mpr (by omega))
  have t2 : ¬ (48 ≤ c ∧ c ≤ 57) → ¬ (97 ≤ c ∧ c ≤ 122) → rt_ X d 39 24 [some (.int (nI c))] [] h (fun v h' => v = some (.int (tB (mkb c = true))) ∧ h' = h) := fun w1 w2 => by
    refine rt_k (k := 2) (pc' := 27) (L' := [some (.int (nI c))]) (st' := [.int (nI 65), .int (nI c)]) (h' := h) (fun _ => rfl) ?_
    refine rt_ilt rfl (by omega) (by decide) (fun z => ?_) (fun z => ?_)
    ·
      exact t3 w1 w2 (by omega)
    refine rt_k (k := 2) (pc' := 33) (L' := [some (.int (nI c))]) (st' := [.int (nI 90), .int (nI c)]) (h' := h) (fun _ => rfl) ?_
    refine rt_ile rfl (by omega) (by decide) (fun z2 => ?_) (fun z2 => ?_)
    ·
      exact yes (mkb_iff.mpr (by omega))
    exact t3 w1 w2 (by omega)
  have t1 : ¬ (48 ≤ c ∧ c ≤ 57) → rt_ X d 39 12 [some (.int (nI c))] [] h (fun v h' => v = some (.int (tB (mkb c = true))) ∧ h' = h) := fun w1 => by
    refine rt_k (k := 2) (pc' := 15) (L' := [some (.int (nI c))]) (st' := [.int (nI 97), .int (nI c)]) (h' := h) (fun _ => rfl) ?_
    refine rt_ilt rfl (by omega) (by decide) (fun z => ?_) (fun z => ?_)
    ·
      exact t2 w1 (by omega)
    refine rt_k (k := 2) (pc' := 21) (L' := [some (.int (nI c))]) (st' := [.int (nI 122), .int (nI c)]) (h' := h) (fun _ => rfl) ?_
    refine rt_ile rfl (by omega) (by decide) (fun z2 => ?_) (fun z2 => ?_)
    ·
      exact yes (mkb_iff.mpr (by omega))
    exact t2 w1 (by omega)
  refine rt_k (k := 2) (pc' := 3) (L' := [some (.int (nI c))]) (st' := [.int (nI 48), .int (nI c)]) (h' := h) (fun _ => rfl) ?_
  refine rt_ilt rfl (by omega) (by decide) (fun z => ?_) (fun z => ?_)
  ·
    exact t1 (by omega)
  refine rt_k (k := 2) (pc' := 9) (L' := [some (.int (nI c))]) (st' := [.int (nI 57), .int (nI c)]) (h' := h) (fun _ => rfl) ?_
  refine rt_ile rfl (by omega) (by decide) (fun z2 => ?_) (fun z2 => ?_)
  ·
    exact yes (mkb_iff.mpr (by omega))
  exact t1 (by omega)
theorem lI_add (a c : Nat) : lI a + lI c = lI (a + c) := by unfold lI; exact (Int64.ofNat_add a c).symm
theorem lI_mul (a c : Nat) : lI a * lI c = lI (a * c) := by unfold lI; exact (Int64.ofNat_mul a c).symm
set_option maxRecDepth 20000 in
theorem lI_i2l : ∀ c : Fin 256, (nI c.1).toInt64 = lI c.1 := by decide
theorem lI_sh (a c : Nat) (hc : c < 256) : lI a <<< ((nI 8).toInt64 &&& 63) ||| lI c = lI (a * 256 + c) := by
  apply Int64.toBitVec_inj.mp
  apply BitVec.eq_of_toNat_eq
  unfold lI
  rw [Int64.toBitVec_or, Int64.toBitVec_shiftLeft, Int64.toBitVec_ofNat', Int64.toBitVec_ofNat', Int64.toBitVec_ofNat', BitVec.toNat_or, show ((nI 8).toInt64 &&& 63 : Int64).toBitVec.smod 64 = 8#64 from by decide, BitVec.shiftLeft_eq', BitVec.toNat_shiftLeft]
  simp only [BitVec.toNat_ofNat]
  rw [show 8 % 2 ^ 64 = 8 from by decide, Nat.mod_eq_of_lt (show c < 2 ^ 64 by omega), Nat.shiftLeft_eq]
  have e1 : a % 2 ^ 64 * 2 ^ 8 % 2 ^ 64 = (a % 2 ^ 56) * 2 ^ 8 := by omega
  rw [e1]
  have e2 := Nat.shiftLeft_add_eq_or_of_lt (show c < 2 ^ 8 by omega) (a % 2 ^ 56)
  rw [Nat.shiftLeft_eq] at e2
  rw [← e2]
  omega
theorem pk_cg {u w : kW} : ∀ n, (∀ i, i < n → u.getD i 0 = w.getD i 0) → pk u n = pk w n
  | 0, _ => rfl
  | n + 1, e => by rw [pk, pk, pk_cg n (fun i hi => e i (by omega)), e n (by omega)]
theorem rd_pa1 (C : rC h T f b p) {s t : Nat} (ht : t ≤ T.length) (hs : s ≤ T.length + 20) (w : kW) (hw : ∀ i, i < 8 → w.getD i 0 = if s + i < t then T.getD (s + i) 0 else 0) (i : Nat) (hi : i ≤ 8) : rt_ X (d + 1) 30 5 [some (.ref 3), some (.int (nI s)), some (.int (nI t)), some (.long (lI (pk w i))), none, some (.int (nI (s + i)))] [] h (fun v h' => v = some (.long (lI (pk w 8))) ∧ h' = h) := by
  obtain ⟨P, c, h1, h2, h3⟩ := id C
  have hT := P.2.2.1
  have p1 := P.1
  refine rt_k (k := 3) (pc' := 10) (L' := [some (.ref 3), some (.int (nI s)), some (.int (nI t)), some (.long (lI (pk w i))), none, some (.int (nI (s + i)))]) (st' := [.int (nI 8), .int (nI s), .int (nI (s + i))]) (h' := h) (fun _ => rfl) ?_
  refine rt_add rfl ?_
  refine rt_ige rfl (by omega) (by omega) (fun z => ?_) (fun z => ?_)
  ·
    have e : i = 8 := by omega
    refine rt_k (k := 1) (pc' := 47) (L' := [some (.ref 3), some (.int (nI s)), some (.int (nI t)), some (.long (lI (pk w i))), none, some (.int (nI (s + i)))]) (st' := [.long (lI (pk w i))]) (h' := h) (fun _ => rfl) ?_
    exact rt_r (v := some (.long (lI (pk w i)))) rfl rfl (⟨by rw [e], rfl⟩)
  have hwi := hw i (by omega)
  refine rt_k (k := 5) (pc' := 21) (L' := [some (.ref 3), some (.int (nI s)), some (.int (nI t)), some (.long (lI (pk w i))), none, some (.int (nI (s + i)))]) (st' := [.int (nI t), .int (nI (s + i)), .long ((lI (pk w i)) <<< ((nI 8).toInt64 &&& 63))]) (h' := h) (fun _ => rfl) ?_
  refine rt_ige rfl (by omega) (by omega) (fun z2 => ?_) (fun z2 => ?_)
  ·
    rw [if_neg (by omega)] at hwi
    have e : lI (pk w i) <<< ((nI 8).toInt64 &&& 63) ||| (nI 0).toInt64 = lI (pk w (i + 1)) := by
      rw [show (nI 0).toInt64 = lI 0 from by decide, lI_sh _ _ (by decide), pk, hwi]
    refine rt_k (k := 4) (pc' := 40) (L' := [some (.ref 3), some (.int (nI s)), some (.int (nI t)), some (.long (((lI (pk w i)) <<< ((nI 8).toInt64 &&& 63)) ||| ((nI 0).toInt64))), none, some (.int (nI (s + i)))]) (st' := []) (h' := h) (fun _ => rfl) ?_
    refine rt_k (k := 0) (pc' := 40) (L' := [some (.ref 3), some (.int (nI s)), some (.int (nI t)), some (.long (lI (pk w (i + 1)))), none, some (.int (nI (s + i)))]) (st' := []) (h' := h) (fun _ => by rw [← e]; rfl) ?_
    refine rt_inc (c := 1) rfl rfl ?_
    refine rt_k (k := 1) (pc' := 5) (L' := [some (.ref 3), some (.int (nI s)), some (.int (nI t)), some (.long (lI (pk w (i + 1)))), none, some (.int (nI (s + i + 1)))]) (st' := []) (h' := h) (fun _ => rfl) ?_
    exact rd_pa1 C ht hs w hw (i + 1) (by omega)
  rw [if_pos z2] at hwi
  have b1 := tp_lt P (s + i)
  refine rt_k (k := 1) (pc' := 25) (L' := [some (.ref 3), some (.int (nI s)), some (.int (nI t)), some (.long (lI (pk w i))), none, some (.int (nI (s + i)))]) (st' := [.ref 3, .long ((lI (pk w i)) <<< ((nI 8).toInt64 &&& 63))]) (h' := h) (fun _ => rfl) ?_
  refine rt_gf rfl c rfl rfl ?_
  refine rt_k (k := 1) (pc' := 30) (L' := [some (.ref 3), some (.int (nI s)), some (.int (nI t)), some (.long (lI (pk w i))), none, some (.int (nI (s + i)))]) (st' := [.int (nI (s + i)), .ref 1, .long ((lI (pk w i)) <<< ((nI 8).toInt64 &&& 63))]) (h' := h) (fun _ => rfl) ?_
  refine rt_cvE rfl (by decide) p1 rfl rfl rfl rfl (tp_at3 P (i := s + i) (by omega)) ?_
  have e : lI (pk w i) <<< ((nI 8).toInt64 &&& 63) ||| (nI (T.getD (s + i) 0)).toInt64 = lI (pk w (i + 1)) := by
    rw [lI_i2l ⟨_, b1⟩, lI_sh _ _ b1, pk, hwi]
  refine rt_k (k := 4) (pc' := 40) (L' := [some (.ref 3), some (.int (nI s)), some (.int (nI t)), some (.long (((lI (pk w i)) <<< ((nI 8).toInt64 &&& 63)) ||| ((nI (T.getD (s + i) 0)).toInt64))), none, some (.int (nI (s + i)))]) (st' := []) (h' := h) (fun _ => rfl) ?_
  refine rt_k (k := 0) (pc' := 40) (L' := [some (.ref 3), some (.int (nI s)), some (.int (nI t)), some (.long (lI (pk w (i + 1)))), none, some (.int (nI (s + i)))]) (st' := []) (h' := h) (fun _ => by rw [← e]; rfl) ?_
  refine rt_inc (c := 1) rfl rfl ?_
  refine rt_k (k := 1) (pc' := 5) (L' := [some (.ref 3), some (.int (nI s)), some (.int (nI t)), some (.long (lI (pk w (i + 1)))), none, some (.int (nI (s + i + 1)))]) (st' := []) (h' := h) (fun _ => rfl) ?_
  exact rd_pa1 C ht hs w hw (i + 1) (by omega)
termination_by 8 - i
theorem rd_packed (C : rC h T f b p) {s t : Nat} (ht : t ≤ T.length) (hs : s ≤ T.length + 20) : rt_ X (d + 1) 30 0 [some (.ref 3), some (.int (nI s)), some (.int (nI t)), none, none, none] [] h (fun v h' => v = some (.long (nmI (sl T s t))) ∧ h' = h) := by
  refine rt_k (k := 4) (pc' := 5) (L' := [some (.ref 3), some (.int (nI s)), some (.int (nI t)), some (.long 0), none, some (.int (nI s))]) (st' := []) (h' := h) (fun _ => rfl) ?_
  refine rd_pa1 C ht hs (sl T s t) (fun i hi => ?_) 0 (Nat.zero_le _)
  by_cases q : s + i < t
  · rw [if_pos q, sl_getD q]
  · rw [if_neg q, List.getD_eq_getElem?_getD, List.getElem?_eq_none (by rw [sl_len ht]; omega)]; rfl
end RE

