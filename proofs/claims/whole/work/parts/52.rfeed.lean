/-! THE REFERENCE's TAPE: put, feed, end. m: its cell, of the fields fs; g: the tape's row. -/
theorem tp_N (a : Int32) : a.toInt = if a.toBitVec.toNat < 2147483648 then (a.toBitVec.toNat : Int) else (a.toBitVec.toNat : Int) - 4294967296 := by
  have h1 : a.toInt = a.toBitVec.toInt := rfl
  rw [h1, BitVec.toInt_eq_toNat_cond]
  have h2 := a.toBitVec.isLt
  split <;> split <;> first | rfl | omega
theorem tp_sh (a s : Int32) (k : Nat) (hk : k = 24 ∨ k = 16 ∨ k = 8 ∨ k = 0) (hs : ((s &&& 31).toBitVec.smod 32).toNat = k) : (a >>> (s &&& 31)).toBitVec.toNat % 256 = a.toBitVec.toNat / 2 ^ k % 256 := by
  have h1 := pk_shr a (s &&& 31) k hs
  rw [Int.shiftRight_eq_div_pow, tp_N, tp_N] at h1
  have b1 := a.toBitVec.isLt
  have b2 := (a >>> (s &&& 31)).toBitVec.isLt
  rw [show (2 : Nat) ^ 32 = 4294967296 from rfl] at b1 b2
  generalize a.toBitVec.toNat = N at *
  generalize (a >>> (s &&& 31)).toBitVec.toNat = R at *
  rcases hk with rfl | rfl | rfl | rfl
  · rw [show ((2 ^ 24 : Nat) : Int) = 16777216 from rfl] at h1
    show R % 256 = N / 16777216 % 256
    split at h1 <;> split at h1 <;> omega
  · rw [show ((2 ^ 16 : Nat) : Int) = 65536 from rfl] at h1
    show R % 256 = N / 65536 % 256
    split at h1 <;> split at h1 <;> omega
  · rw [show ((2 ^ 8 : Nat) : Int) = 256 from rfl] at h1
    show R % 256 = N / 256 % 256
    split at h1 <;> split at h1 <;> omega
  · rw [show ((2 ^ 0 : Nat) : Int) = 1 from rfl] at h1
    show R % 256 = N / 1 % 256
    split at h1 <;> split at h1 <;> omega
theorem tp_sv (a s : Int32) (k : Nat) (hk : k = 24 ∨ k = 16 ∨ k = 8 ∨ k = 0) (hs : ((s &&& 31).toBitVec.smod 32).toNat = k) (hu : ((s.toUInt32 &&& Int32.toUInt32 31).toBitVec % 32).toNat = k) : vp_nar .char (((a >>> (s &&& 31) &&& 255).toUInt32 % 65536).toInt32) = nI (tp_b a s) := by
  rw [pk_and _ (m := 255) 8 (by decide)]
  have e : (a >>> (s &&& 31)).toBitVec.toNat % 2 ^ 8 = tp_b a s := by
    unfold tp_b
    rw [pk_ushr a s k hu]
    exact tp_sh a s k hk hs
  rw [e]
  exact tp_nar (Nat.lt_trans (tp_b_lt a s) (by decide))
def tm_ (h : List va_E) (m g : Nat) (fs : List Value) (T : List Nat) : Prop := h[m]? = some (.inr (12, fs)) ∧ fs.length = 24 ∧ fs[0]? = some (.ref g) ∧ fs[1]? = some (.int (nI T.length)) ∧ (∃ f : Nat → Int32, h[g]? = some (.inl (0, 400, .inl f)) ∧ ∀ j, j < T.length → f j = nI (T.getD j 0)) ∧ T.length ≤ 400 ∧ ∀ c ∈ T, c < 256
set_option maxRecDepth 10000 in
/-- one turn of put's loop -/
theorem tm_turn {X : Nat × (Nat → Int32)} {d m g : Nat} {fs : List Value} {T : List Nat} {h : List va_E} {a s : Int32} {Q : Option Value → List va_E → Prop} (P : tm_ h m g fs T) (hl : T.length < 400) (hs : ab_cd .lt s 0 = false) (hv : vp_nar .char (((a >>> (s &&& 31) &&& 255).toUInt32 % 65536).toInt32) = nI (tp_b a s))
    (k : ∀ h', tm_ h' m g (fs.set 1 (.int (nI (T.length + 1)))) (T ++ [tp_b a s]) → fr_ (fun z => z = m ∨ z = g) h h' → rt_ X d 128 3 [some (.ref m), some (.int a), some (.int (s + Int32.ofInt (-8)))] [] h' Q) : rt_ X d 128 3 [some (.ref m), some (.int a), some (.int s)] [] h Q := by
  obtain ⟨p1, pl, pa, pb, ⟨f, p2, p3⟩, p4, p5⟩ := P
  have hne : g ≠ m := by
    intro z
    rw [z, p1] at p2
    cases p2
  refine rt_n rfl ?_
  refine rt_if rfl (fun h1 => absurd (hs.symm.trans h1) (by decide)) (fun _ => ?_)
  refine rt_n rfl ?_
  refine rt_gf rfl p1 rfl pa ?_
  refine rt_n rfl ?_
  refine rt_gf rfl p1 rfl pb ?_
  refine rt_n rfl ?_
  refine rt_n rfl ?_
  refine rt_n rfl ?_
  refine rt_n rfl ?_
  refine rt_n rfl ?_
  refine rt_n rfl ?_
  refine rt_cas rfl p2 rfl (tp_ix (by omega) (by omega)) ?_
  have e1 : upd f (nI T.length).toNatClampNeg (vp_nar .char (((a >>> (s &&& 31) &&& 255).toUInt32 % 65536).toInt32)) = upd f T.length (nI (tp_b a s)) := by rw [nI_clamp (by omega), hv]
  show rt_ X d 128 24 [some (.ref m), some (.int a), some (.int s)] [] (h.set g (.inl (0, 400, .inl (upd f (nI T.length).toNatClampNeg (vp_nar .char (((a >>> (s &&& 31) &&& 255).toUInt32 % 65536).toInt32)))))) Q
  rw [e1]
  have q1 : (h.set g (.inl (0, 400, .inl (upd f T.length (nI (tp_b a s))))))[m]? = some (.inr (12, fs)) := by rw [List.getElem?_set_ne hne]; exact p1
  have q2 := st_in_ (e' := (.inl (0, 400, .inl (upd f T.length (nI (tp_b a s)))) : va_E)) p2
  refine rt_n rfl ?_
  refine rt_n rfl ?_
  refine rt_gf rfl q1 rfl pb ?_
  refine rt_n rfl ?_
  refine rt_n rfl ?_
  refine rt_pf rfl q1 ⟨rfl, (by rw [pl]; decide), rfl⟩ ?_
  refine rt_n rfl ?_
  refine rt_n rfl ?_
  have e2 : nI T.length + Int32.ofInt 1 = nI (T.length + 1) := nI_add T.length 1
  refine k _ ⟨?_, ?_, ?_, ?_, ⟨upd f T.length (nI (tp_b a s)), ?_, fun j hj => tp_app p3 hj⟩, ?_, ?_⟩ ?_
  · rw [st_in_ q1, e2]
  · rw [List.length_set]; exact pl
  · rw [List.getElem?_set_ne (by decide)]; exact pa
  · rw [List.getElem?_set_self (by rw [pl]; decide), List.length_append]
    rfl
  · rw [List.getElem?_set_ne hne.symm]
    exact q2
  · rw [List.length_append]
    show T.length + 1 ≤ 400
    omega
  · intro c hc
    rcases List.mem_append.mp hc with hc | hc
    · exact p5 c hc
    · rw [List.mem_singleton.mp hc]
      exact tp_b_lt a s
  · refine fr_tr (h1 := h.set g (.inl (0, 400, .inl (upd f T.length (nI (tp_b a s)))))) (fr_set p2 ?_ (Or.inr rfl)) (fr_set q1 ?_ (Or.inl rfl)) <;> rfl
theorem tm_put {X : Nat × (Nat → Int32)} {d m g : Nat} {fs : List Value} {T : List Nat} {h : List va_E} (P : tm_ h m g fs T) (hl : T.length + 4 ≤ 400) (a : Int32) : rt_ X d 128 0 [some (.ref m), some (.int a), none] [] h (fun v h' => v = none ∧ tm_ h' m g (fs.set 1 (.int (nI (T.length + 4)))) (T ++ tp_4 a) ∧ fr_ (fun z => z = m ∨ z = g) h h') := by
  refine rt_n rfl ?_
  refine rt_n rfl ?_
  refine tm_turn (s := 24) P (by omega) (by decide) (tp_sv a 24 24 (by decide) (by decide) (by decide)) (fun h1 P1 F1 => ?_)
  refine tm_turn (s := 16) P1 (by rw [List.length_append]; show T.length + 1 < 400; omega) (by decide) (tp_sv a 16 16 (by decide) (by decide) (by decide)) (fun h2 P2 F2 => ?_)
  refine tm_turn (s := 8) P2 (by rw [List.length_append, List.length_append]; show T.length + 1 + 1 < 400; omega) (by decide) (tp_sv a 8 8 (by decide) (by decide) (by decide)) (fun h3 P3 F3 => ?_)
  refine tm_turn (s := 0) P3 (by rw [List.length_append, List.length_append, List.length_append]; show T.length + 1 + 1 + 1 < 400; omega) (by decide) (tp_sv a 0 0 (by decide) (by decide) (by decide)) (fun h4 P4 F4 => ?_)
  refine rt_n rfl ?_
  refine rt_n rfl ?_
  refine rt_r (v := none) rfl rfl ⟨rfl, ?_, fr_tr (fr_tr (fr_tr F1 F2) F3) F4⟩
  have l3 : (((T ++ [tp_b a 24]) ++ [tp_b a 16]) ++ [tp_b a 8]).length + 1 = T.length + 4 := by simp
  have e9 : (((T ++ [tp_b a 24]) ++ [tp_b a 16]) ++ [tp_b a 8]) ++ [tp_b a 0] = T ++ tp_4 a := by simp [tp_4]
  rw [List.set_set, List.set_set, List.set_set, l3, e9] at P4
  exact P4
set_option maxRecDepth 10000 in
theorem tm_feed {X : Nat × (Nat → Int32)} {n m g : Nat} {fs : List Value} {T : List Nat} {h : List va_E} (P : tm_ h m g fs T) (a b c d e : Int32) : rt_ X (n + 1) 127 0 [some (.ref m), some (.int a), some (.int b), some (.int c), some (.int d), some (.int e)] [] h (fun v h' => (T.length + 20 ≤ 400 → v = some (.int (nI (T.length + 20))) ∧ tm_ h' m g (fs.set 1 (.int (nI (T.length + 20)))) (T ++ tp_20 a b c d e) ∧ fr_ (fun z => z = m ∨ z = g) h h') ∧ (¬ T.length + 20 ≤ 400 → v = some (.int (-3)) ∧ h' = h)) := by
  have hl0 := P.2.2.2.2.2.1
  refine rt_n rfl ?_
  refine rt_gf rfl P.1 rfl P.2.2.2.1 ?_
  refine rt_n rfl ?_
  refine rt_n rfl ?_
  refine rt_n rfl ?_
  by_cases hl : T.length + 20 ≤ 400
  · refine rt_ic rfl (fun _ => ?_) (fun h1 => ?_)
    · refine rt_n rfl ?_
      refine rt_n rfl ?_
      refine rt_cv rfl (by decide) P.1 rfl rfl rfl rfl (tm_put P (by omega) a) ?_
      rintro v h2 ⟨rfl, P2, F2⟩
      have l2 : (T ++ tp_4 a).length = T.length + 4 := by rw [List.length_append]; rfl
      refine rt_n rfl ?_
      refine rt_n rfl ?_
      refine rt_cv rfl (by decide) P2.1 rfl rfl rfl rfl (tm_put P2 (by omega) b) ?_
      rintro v h3 ⟨rfl, P3, F3⟩
      have l3 : ((T ++ tp_4 a) ++ tp_4 b).length = T.length + 8 := by rw [List.length_append, l2]; rfl
      refine rt_n rfl ?_
      refine rt_n rfl ?_
      refine rt_cv rfl (by decide) P3.1 rfl rfl rfl rfl (tm_put P3 (by omega) c) ?_
      rintro v h4 ⟨rfl, P4, F4⟩
      have l4 : (((T ++ tp_4 a) ++ tp_4 b) ++ tp_4 c).length = T.length + 12 := by rw [List.length_append, l3]; rfl
      refine rt_n rfl ?_
      refine rt_n rfl ?_
      refine rt_cv rfl (by decide) P4.1 rfl rfl rfl rfl (tm_put P4 (by omega) d) ?_
      rintro v h5 ⟨rfl, P5, F5⟩
      have l5 : ((((T ++ tp_4 a) ++ tp_4 b) ++ tp_4 c) ++ tp_4 d).length = T.length + 16 := by rw [List.length_append, l4]; rfl
      refine rt_n rfl ?_
      refine rt_n rfl ?_
      refine rt_cv rfl (by decide) P5.1 rfl rfl rfl rfl (tm_put P5 (by omega) e) ?_
      rintro v h6 ⟨rfl, P6, F6⟩
      have l6 : (((((T ++ tp_4 a) ++ tp_4 b) ++ tp_4 c) ++ tp_4 d) ++ tp_4 e).length = T.length + 20 := by rw [List.length_append, l5]; rfl
      rw [List.set_set, List.set_set, List.set_set, List.set_set, l5] at P6
      refine rt_n rfl ?_
      refine rt_gf rfl P6.1 rfl P6.2.2.2.1 ?_
      rw [l6]
      refine rt_r (v := some (.int (nI (T.length + 20)))) rfl rfl ⟨fun _ => ⟨rfl, ?_, fr_tr (fr_tr (fr_tr (fr_tr F2 F3) F4) F5) F6⟩, fun z => absurd hl z⟩
      rw [List.append_assoc, List.append_assoc, List.append_assoc, List.append_assoc] at P6
      exact P6
    · exfalso
      have h3 : ¬ (nI T.length + nI 20 ≤ nI 400) := of_decide_eq_false h1
      rw [nI_add, nI_leI (by omega) (by omega)] at h3
      omega
  · refine rt_ic rfl (fun h1 => ?_) (fun _ => ?_)
    · exfalso
      have h3 : (nI T.length + nI 20 ≤ nI 400) := of_decide_eq_true h1
      rw [nI_add, nI_leI (by omega) (by omega)] at h3
      omega
    · refine rt_n rfl ?_
      exact rt_r (v := some (.int (-3))) rfl rfl ⟨fun z => absurd z hl, fun _ => ⟨rfl, rfl⟩⟩
