/-! STRINGS: length, charAt; of constants and of words. -/
section ST
variable {X : Nat × (Nat → Int32)} {d : Nat} {h : List va_E} {Q : Option Value → List va_E → Prop}
theorem zs_or (X : Nat × (Nat → Int32)) : ab_zs X = .null ∨ ab_zs X = .retAddr 3000 := by
  unfold ab_zs
  by_cases q : X.2 X.1 = 0
  · rw [if_pos q]; exact Or.inl rfl
  · rw [if_neg q]; exact Or.inr rfl
theorem jd_chk {i n : Nat} (hi : i < n) (hn : n < 2147483648) {v : Value} (hv : v = .null ∨ v = .retAddr 3000) : rt_ X d 186 0 [some (.int (nI i)), some (.int (nI n)), some v] [] h (fun r h' => r = some (.int (nI i)) ∧ h' = h) := by
  refine rt_k (k := 1) (pc' := 1) (L' := [some (.int (nI i)), some (.int (nI n)), some (v)]) (st' := [.int (nI i)]) (h' := h) (fun _ => rfl) ?_
  refine rt_zlt rfl (by omega) ?_
  refine rt_k (k := 2) (pc' := 6) (L' := [some (.int (nI i)), some (.int (nI n)), some (v)]) (st' := [.int (nI n), .int (nI i)]) (h' := h) (fun _ => rfl) ?_
  refine rt_ilt rfl (by omega) (by omega) (fun _ => ?_) (fun z => absurd z (by omega))
  refine rt_k (k := 1) (pc' := 17) (L' := [some (.int (nI i)), some (.int (nI n)), some (v)]) (st' := [.int (nI i)]) (h' := h) (fun _ => rfl) ?_
  exact rt_r (v := some (.int (nI i))) rfl rfl (⟨rfl, rfl⟩)
theorem jd_ci {i n : Nat} (hi : i < n) (hn : n < 2147483648) : rt_ X (d + 1) 185 0 [some (.int (nI i)), some (.int (nI n))] [] h (fun r h' => r = none ∧ h' = h) := by
  rcases zs_or X with ez | ez
  · have t0 := trivial
    refine rt_k (k := 2) (pc' := 2) (L' := [some (.int (nI i)), some (.int (nI n))]) (st' := [.int (nI n), .int (nI i)]) (h' := h) (fun _ => rfl) ?_
    refine rt_n rfl ?_
    rw [ez]
    refine rt_cE rfl rfl (jd_chk hi hn (Or.inl rfl)) ?_
    refine rt_k (k := 1) (pc' := 9) (L' := [some (.int (nI i)), some (.int (nI n))]) (st' := []) (h' := h) (fun _ => rfl) ?_
    exact rt_r (v := none) rfl rfl (⟨rfl, rfl⟩)
  · have t0 := trivial
    refine rt_k (k := 2) (pc' := 2) (L' := [some (.int (nI i)), some (.int (nI n))]) (st' := [.int (nI n), .int (nI i)]) (h' := h) (fun _ => rfl) ?_
    refine rt_n rfl ?_
    rw [ez]
    refine rt_cE rfl rfl (jd_chk hi hn (Or.inr rfl)) ?_
    refine rt_k (k := 1) (pc' := 9) (L' := [some (.int (nI i)), some (.int (nI n))]) (st' := []) (h' := h) (fun _ => rfl) ?_
    exact rt_r (v := none) rfl rfl (⟨rfl, rfl⟩)
def by8 (c : Nat) : Int32 := (nI c).toInt8.toInt32
set_option maxRecDepth 20000 in
theorem by8_c : ∀ c : Fin 256, ((by8 c.1 &&& nI 255).toUInt32 % 65536).toInt32 = nI c.1 := by decide
/-- a word as a String -/
def sSb (h : List va_E) (v : Nat) (w : kW) : Prop := ∃ f : Nat → Int32, z_ h v (.inl (3, w.length, .inl f)) ∧ ∀ i, i < w.length → f i = by8 (w.getD i 0)
def sS (h : List va_E) (a : Nat) (w : kW) : Prop := ∃ (v : Nat) (x y : Int32), z_ h a (.inr (17, [.ref v, .int (nI 0), .int x, .int y])) ∧ sSb h v w ∧ w.length ≤ 400 ∧ ∀ c ∈ w, c < 256
theorem sSb.ex {h h' : List va_E} {v : Nat} {w : kW} (E : ex_ h h') (C : sSb h v w) : sSb h' v w := by
  obtain ⟨f, c1, c2⟩ := C
  exact ⟨f, E _ _ c1, c2⟩
theorem sS.ex {h h' : List va_E} {a : Nat} {w : kW} (E : ex_ h h') (C : sS h a w) : sS h' a w := by
  obtain ⟨v, x, y, c1, c2, c3, c4⟩ := C
  exact ⟨v, x, y, E _ _ c1, c2.ex E, c3, c4⟩
theorem st_len {a : Nat} {w : kW} (C : sS h a w) : rt_ X (d + 1) 28 0 [some (.ref a)] [] h (fun r h' => r = some (.int (nI w.length)) ∧ h' = h) := by
  obtain ⟨v, x, y, ⟨-, c1⟩, ⟨f, ⟨-, c2⟩, -⟩, hl, hc⟩ := C
  have hco : rt_ X d 29 0 [some (.ref a)] [] h (fun r h' => r = some (.int (nI 0)) ∧ h' = h) := by
    refine rt_k (k := 3) (pc' := 7) (L' := [some (.ref a)]) (st' := [.ref a]) (h' := h) (fun _ => rfl) ?_
    refine rt_gf rfl c1 rfl rfl ?_
    refine rt_k (k := 1) (pc' := 14) (L' := [some (.ref a)]) (st' := [.int (nI 0)]) (h' := h) (fun _ => rfl) ?_
    exact rt_r (v := some (.int (nI 0))) rfl rfl (⟨rfl, rfl⟩)
  refine rt_k (k := 1) (pc' := 1) (L' := [some (.ref a)]) (st' := [.ref a]) (h' := h) (fun _ => rfl) ?_
  refine rt_gf rfl c1 rfl rfl ?_
  refine rt_aln rfl c2 (by decide) ?_
  refine rt_k (k := 1) (pc' := 6) (L' := [some (.ref a)]) (st' := [.ref a, .int (nI w.length)]) (h' := h) (fun _ => rfl) ?_
  refine rt_cvE rfl (by decide) c1 rfl rfl rfl rfl hco ?_
  refine rt_k (k := 1) (pc' := 10) (L' := [some (.ref a)]) (st' := [.int ((nI w.length) >>> ((nI 0) &&& 31))]) (h' := h) (fun _ => rfl) ?_
  rw [show nI w.length >>> (nI 0 &&& 31) = nI w.length from by rw [show (nI 0 &&& 31 : Int32) = 0 from by decide]; exact Int32.shiftRight_zero]
  exact rt_r (v := some (.int (nI w.length))) rfl rfl ⟨rfl, rfl⟩
theorem st_char {a : Nat} {w : kW} (C : sS h a w) {i : Nat} (hi : i < w.length) : rt_ X (d + 3) 182 0 [some (.ref a), some (.int (nI i))] [] h (fun r h' => r = some (.int (nI (w.getD i 0))) ∧ h' = h) := by
  obtain ⟨v, x, y, ⟨-, c1⟩, ⟨f, ⟨-, c2⟩, hf⟩, hl, hc⟩ := C
  have hb : w.getD i 0 < 256 := by
    rw [List.getD_eq_getElem?_getD, List.getElem?_eq_getElem hi]
    exact hc _ (List.getElem_mem hi)
  have hla : rt_ X (d + 2) 183 0 [some (.ref a)] [] h (fun r h' => r = some (.int (nI 1)) ∧ h' = h) := by
    refine rt_k (k := 3) (pc' := 7) (L' := [some (.ref a)]) (st' := [.ref a]) (h' := h) (fun _ => rfl) ?_
    refine rt_gf rfl c1 rfl rfl ?_
    refine rt_k (k := 3) (pc' := 18) (L' := [some (.ref a)]) (st' := [.int (nI 1)]) (h' := h) (fun _ => rfl) ?_
    exact rt_r (v := some (.int (nI 1))) rfl rfl (⟨rfl, rfl⟩)
  have hch : rt_ X (d + 2) 184 0 [some (.ref v), some (.int (nI i))] [] h (fun r h' => r = some (.int (nI (w.getD i 0))) ∧ h' = h) := by
    refine rt_k (k := 2) (pc' := 2) (L' := [some (.ref v), some (.int (nI i))]) (st' := [.ref v, .int (nI i)]) (h' := h) (fun _ => rfl) ?_
    refine rt_aln rfl c2 (by decide) ?_
    refine rt_cE rfl rfl (jd_ci hi (by omega)) ?_
    refine rt_k (k := 2) (pc' := 8) (L' := [some (.ref v), some (.int (nI i))]) (st' := [.int (nI i), .ref v]) (h' := h) (fun _ => rfl) ?_
    refine rt_balN rfl c2 rfl (by omega) (by omega) (hf i hi) ?_
    refine rt_k (k := 3) (pc' := 14) (L' := [some (.ref v), some (.int (nI i))]) (st' := [.int ((((by8 (w.getD i 0)) &&& (nI 255)).toUInt32 % 65536).toInt32)]) (h' := h) (fun _ => rfl) ?_
    rw [show ((by8 (w.getD i 0) &&& nI 255).toUInt32 % 65536).toInt32 = nI (w.getD i 0) from by8_c ⟨_, hb⟩]
    exact rt_r (v := some (.int (nI (w.getD i 0)))) rfl (tp_ch (by omega)) ⟨rfl, rfl⟩
  refine rt_k (k := 1) (pc' := 1) (L' := [some (.ref a), some (.int (nI i))]) (st' := [.ref a]) (h' := h) (fun _ => rfl) ?_
  refine rt_cvE rfl (by decide) c1 rfl rfl rfl rfl hla ?_
  refine rt_k (k := 2) (pc' := 8) (L' := [some (.ref a), some (.int (nI i))]) (st' := [.ref a]) (h' := h) (fun _ => rfl) ?_
  refine rt_gf rfl c1 rfl rfl ?_
  refine rt_k (k := 1) (pc' := 12) (L' := [some (.ref a), some (.int (nI i))]) (st' := [.int (nI i), .ref v]) (h' := h) (fun _ => rfl) ?_
  refine rt_cE rfl rfl hch ?_
  exact rt_r (v := some (.int (nI (w.getD i 0)))) rfl (tp_ch (by omega)) ⟨rfl, rfl⟩
/-- the texts of the constants -/
def tx (k : Nat) : kW := [[110, 101, 101, 100, 115], [98, 114, 101, 97, 107, 115], [111, 119, 110, 115], [42], [124, 124], [], [60, 61], [62, 61], [60], [62], [94], [126], [61]].getD k []
theorem cst_len0 : rt_ X (d + 1) 28 0 [some (.retAddr 0)] [] h (fun r h' => r = some (.int (nI 5)) ∧ h' = h) := ⟨40, some (.int (nI 5)), h, rfl, rfl, rfl⟩
theorem cst_len1 : rt_ X (d + 1) 28 0 [some (.retAddr 1)] [] h (fun r h' => r = some (.int (nI 6)) ∧ h' = h) := ⟨40, some (.int (nI 6)), h, rfl, rfl, rfl⟩
theorem cst_len2 : rt_ X (d + 1) 28 0 [some (.retAddr 2)] [] h (fun r h' => r = some (.int (nI 4)) ∧ h' = h) := ⟨40, some (.int (nI 4)), h, rfl, rfl, rfl⟩
theorem cst_len3 : rt_ X (d + 1) 28 0 [some (.retAddr 3)] [] h (fun r h' => r = some (.int (nI 1)) ∧ h' = h) := ⟨40, some (.int (nI 1)), h, rfl, rfl, rfl⟩
theorem cst_len4 : rt_ X (d + 1) 28 0 [some (.retAddr 4)] [] h (fun r h' => r = some (.int (nI 2)) ∧ h' = h) := ⟨40, some (.int (nI 2)), h, rfl, rfl, rfl⟩
theorem cst_len5 : rt_ X (d + 1) 28 0 [some (.retAddr 5)] [] h (fun r h' => r = some (.int (nI 0)) ∧ h' = h) := ⟨40, some (.int (nI 0)), h, rfl, rfl, rfl⟩
theorem cst_len6 : rt_ X (d + 1) 28 0 [some (.retAddr 6)] [] h (fun r h' => r = some (.int (nI 2)) ∧ h' = h) := ⟨40, some (.int (nI 2)), h, rfl, rfl, rfl⟩
theorem cst_len7 : rt_ X (d + 1) 28 0 [some (.retAddr 7)] [] h (fun r h' => r = some (.int (nI 2)) ∧ h' = h) := ⟨40, some (.int (nI 2)), h, rfl, rfl, rfl⟩
theorem cst_len8 : rt_ X (d + 1) 28 0 [some (.retAddr 8)] [] h (fun r h' => r = some (.int (nI 1)) ∧ h' = h) := ⟨40, some (.int (nI 1)), h, rfl, rfl, rfl⟩
theorem cst_len9 : rt_ X (d + 1) 28 0 [some (.retAddr 9)] [] h (fun r h' => r = some (.int (nI 1)) ∧ h' = h) := ⟨40, some (.int (nI 1)), h, rfl, rfl, rfl⟩
theorem cst_len10 : rt_ X (d + 1) 28 0 [some (.retAddr 10)] [] h (fun r h' => r = some (.int (nI 1)) ∧ h' = h) := ⟨40, some (.int (nI 1)), h, rfl, rfl, rfl⟩
theorem cst_len11 : rt_ X (d + 1) 28 0 [some (.retAddr 11)] [] h (fun r h' => r = some (.int (nI 1)) ∧ h' = h) := ⟨40, some (.int (nI 1)), h, rfl, rfl, rfl⟩
theorem cst_len12 : rt_ X (d + 1) 28 0 [some (.retAddr 12)] [] h (fun r h' => r = some (.int (nI 1)) ∧ h' = h) := ⟨40, some (.int (nI 1)), h, rfl, rfl, rfl⟩
theorem cst_char0 {i : Nat} (hi : i < 5) : rt_ X (d + 3) 182 0 [some (.retAddr 0), some (.int (nI i))] [] h (fun r h' => r = some (.int (nI ((tx 0).getD i 0))) ∧ h' = h) := by
  have hch : rt_ X (d + 2) 184 0 [some (.retAddr 2000), some (.int (nI i))] [] h (fun r h' => r = some (.int (nI ((tx 0).getD i 0))) ∧ h' = h) := by
    refine rt_k (k := 3) (pc' := 3) (L' := [some (.retAddr 2000), some (.int (nI i))]) (st' := [.int (nI 5), .int (nI i)]) (h' := h) (fun _ => rfl) ?_
    refine rt_cE rfl rfl (jd_ci hi (by decide)) ?_
    by_cases e0 : i = 0
    · subst e0
      exact ⟨10, some (.int (nI 110)), h, rfl, rfl, rfl⟩
    by_cases e1 : i = 1
    · subst e1
      exact ⟨10, some (.int (nI 101)), h, rfl, rfl, rfl⟩
    by_cases e2 : i = 2
    · subst e2
      exact ⟨10, some (.int (nI 101)), h, rfl, rfl, rfl⟩
    by_cases e3 : i = 3
    · subst e3
      exact ⟨10, some (.int (nI 100)), h, rfl, rfl, rfl⟩
    by_cases e4 : i = 4
    · subst e4
      exact ⟨10, some (.int (nI 115)), h, rfl, rfl, rfl⟩
    omega
  refine rt_k (k := 1) (pc' := 1) (L' := [some (.retAddr 0), some (.int (nI i))]) (st' := [.retAddr 0]) (h' := h) (fun _ => rfl) ?_
  refine rt_e (n1 := 20) (v := some (.int (nI 1))) (h' := h) rfl rfl rfl ?_
  refine rt_k (k := 4) (pc' := 12) (L' := [some (.retAddr 0), some (.int (nI i))]) (st' := [.int (nI i), .retAddr 2000]) (h' := h) (fun _ => rfl) ?_
  refine rt_cE rfl rfl hch ?_
  have hb : (tx 0).getD i 0 < 256 := by
    by_cases e0 : i = 0
    · subst e0; decide
    by_cases e1 : i = 1
    · subst e1; decide
    by_cases e2 : i = 2
    · subst e2; decide
    by_cases e3 : i = 3
    · subst e3; decide
    by_cases e4 : i = 4
    · subst e4; decide
    omega
  exact rt_r rfl (tp_ch (by omega)) ⟨rfl, rfl⟩
theorem cst_char1 {i : Nat} (hi : i < 6) : rt_ X (d + 3) 182 0 [some (.retAddr 1), some (.int (nI i))] [] h (fun r h' => r = some (.int (nI ((tx 1).getD i 0))) ∧ h' = h) := by
  have hch : rt_ X (d + 2) 184 0 [some (.retAddr 2001), some (.int (nI i))] [] h (fun r h' => r = some (.int (nI ((tx 1).getD i 0))) ∧ h' = h) := by
    refine rt_k (k := 3) (pc' := 3) (L' := [some (.retAddr 2001), some (.int (nI i))]) (st' := [.int (nI 6), .int (nI i)]) (h' := h) (fun _ => rfl) ?_
    refine rt_cE rfl rfl (jd_ci hi (by decide)) ?_
    by_cases e0 : i = 0
    · subst e0
      exact ⟨10, some (.int (nI 98)), h, rfl, rfl, rfl⟩
    by_cases e1 : i = 1
    · subst e1
      exact ⟨10, some (.int (nI 114)), h, rfl, rfl, rfl⟩
    by_cases e2 : i = 2
    · subst e2
      exact ⟨10, some (.int (nI 101)), h, rfl, rfl, rfl⟩
    by_cases e3 : i = 3
    · subst e3
      exact ⟨10, some (.int (nI 97)), h, rfl, rfl, rfl⟩
    by_cases e4 : i = 4
    · subst e4
      exact ⟨10, some (.int (nI 107)), h, rfl, rfl, rfl⟩
    by_cases e5 : i = 5
    · subst e5
      exact ⟨10, some (.int (nI 115)), h, rfl, rfl, rfl⟩
    omega
  refine rt_k (k := 1) (pc' := 1) (L' := [some (.retAddr 1), some (.int (nI i))]) (st' := [.retAddr 1]) (h' := h) (fun _ => rfl) ?_
  refine rt_e (n1 := 20) (v := some (.int (nI 1))) (h' := h) rfl rfl rfl ?_
  refine rt_k (k := 4) (pc' := 12) (L' := [some (.retAddr 1), some (.int (nI i))]) (st' := [.int (nI i), .retAddr 2001]) (h' := h) (fun _ => rfl) ?_
  refine rt_cE rfl rfl hch ?_
  have hb : (tx 1).getD i 0 < 256 := by
    by_cases e0 : i = 0
    · subst e0; decide
    by_cases e1 : i = 1
    · subst e1; decide
    by_cases e2 : i = 2
    · subst e2; decide
    by_cases e3 : i = 3
    · subst e3; decide
    by_cases e4 : i = 4
    · subst e4; decide
    by_cases e5 : i = 5
    · subst e5; decide
    omega
  exact rt_r rfl (tp_ch (by omega)) ⟨rfl, rfl⟩
theorem cst_char2 {i : Nat} (hi : i < 4) : rt_ X (d + 3) 182 0 [some (.retAddr 2), some (.int (nI i))] [] h (fun r h' => r = some (.int (nI ((tx 2).getD i 0))) ∧ h' = h) := by
  have hch : rt_ X (d + 2) 184 0 [some (.retAddr 2002), some (.int (nI i))] [] h (fun r h' => r = some (.int (nI ((tx 2).getD i 0))) ∧ h' = h) := by
    refine rt_k (k := 3) (pc' := 3) (L' := [some (.retAddr 2002), some (.int (nI i))]) (st' := [.int (nI 4), .int (nI i)]) (h' := h) (fun _ => rfl) ?_
    refine rt_cE rfl rfl (jd_ci hi (by decide)) ?_
    by_cases e0 : i = 0
    · subst e0
      exact ⟨10, some (.int (nI 111)), h, rfl, rfl, rfl⟩
    by_cases e1 : i = 1
    · subst e1
      exact ⟨10, some (.int (nI 119)), h, rfl, rfl, rfl⟩
    by_cases e2 : i = 2
    · subst e2
      exact ⟨10, some (.int (nI 110)), h, rfl, rfl, rfl⟩
    by_cases e3 : i = 3
    · subst e3
      exact ⟨10, some (.int (nI 115)), h, rfl, rfl, rfl⟩
    omega
  refine rt_k (k := 1) (pc' := 1) (L' := [some (.retAddr 2), some (.int (nI i))]) (st' := [.retAddr 2]) (h' := h) (fun _ => rfl) ?_
  refine rt_e (n1 := 20) (v := some (.int (nI 1))) (h' := h) rfl rfl rfl ?_
  refine rt_k (k := 4) (pc' := 12) (L' := [some (.retAddr 2), some (.int (nI i))]) (st' := [.int (nI i), .retAddr 2002]) (h' := h) (fun _ => rfl) ?_
  refine rt_cE rfl rfl hch ?_
  have hb : (tx 2).getD i 0 < 256 := by
    by_cases e0 : i = 0
    · subst e0; decide
    by_cases e1 : i = 1
    · subst e1; decide
    by_cases e2 : i = 2
    · subst e2; decide
    by_cases e3 : i = 3
    · subst e3; decide
    omega
  exact rt_r rfl (tp_ch (by omega)) ⟨rfl, rfl⟩
theorem cst_char3 {i : Nat} (hi : i < 1) : rt_ X (d + 3) 182 0 [some (.retAddr 3), some (.int (nI i))] [] h (fun r h' => r = some (.int (nI ((tx 3).getD i 0))) ∧ h' = h) := by
  have hch : rt_ X (d + 2) 184 0 [some (.retAddr 2003), some (.int (nI i))] [] h (fun r h' => r = some (.int (nI ((tx 3).getD i 0))) ∧ h' = h) := by
    refine rt_k (k := 3) (pc' := 3) (L' := [some (.retAddr 2003), some (.int (nI i))]) (st' := [.int (nI 1), .int (nI i)]) (h' := h) (fun _ => rfl) ?_
    refine rt_cE rfl rfl (jd_ci hi (by decide)) ?_
    by_cases e0 : i = 0
    · subst e0
      exact ⟨10, some (.int (nI 42)), h, rfl, rfl, rfl⟩
    omega
  refine rt_k (k := 1) (pc' := 1) (L' := [some (.retAddr 3), some (.int (nI i))]) (st' := [.retAddr 3]) (h' := h) (fun _ => rfl) ?_
  refine rt_e (n1 := 20) (v := some (.int (nI 1))) (h' := h) rfl rfl rfl ?_
  refine rt_k (k := 4) (pc' := 12) (L' := [some (.retAddr 3), some (.int (nI i))]) (st' := [.int (nI i), .retAddr 2003]) (h' := h) (fun _ => rfl) ?_
  refine rt_cE rfl rfl hch ?_
  have hb : (tx 3).getD i 0 < 256 := by
    by_cases e0 : i = 0
    · subst e0; decide
    omega
  exact rt_r rfl (tp_ch (by omega)) ⟨rfl, rfl⟩
theorem cst_char4 {i : Nat} (hi : i < 2) : rt_ X (d + 3) 182 0 [some (.retAddr 4), some (.int (nI i))] [] h (fun r h' => r = some (.int (nI ((tx 4).getD i 0))) ∧ h' = h) := by
  have hch : rt_ X (d + 2) 184 0 [some (.retAddr 2004), some (.int (nI i))] [] h (fun r h' => r = some (.int (nI ((tx 4).getD i 0))) ∧ h' = h) := by
    refine rt_k (k := 3) (pc' := 3) (L' := [some (.retAddr 2004), some (.int (nI i))]) (st' := [.int (nI 2), .int (nI i)]) (h' := h) (fun _ => rfl) ?_
    refine rt_cE rfl rfl (jd_ci hi (by decide)) ?_
    by_cases e0 : i = 0
    · subst e0
      exact ⟨10, some (.int (nI 124)), h, rfl, rfl, rfl⟩
    by_cases e1 : i = 1
    · subst e1
      exact ⟨10, some (.int (nI 124)), h, rfl, rfl, rfl⟩
    omega
  refine rt_k (k := 1) (pc' := 1) (L' := [some (.retAddr 4), some (.int (nI i))]) (st' := [.retAddr 4]) (h' := h) (fun _ => rfl) ?_
  refine rt_e (n1 := 20) (v := some (.int (nI 1))) (h' := h) rfl rfl rfl ?_
  refine rt_k (k := 4) (pc' := 12) (L' := [some (.retAddr 4), some (.int (nI i))]) (st' := [.int (nI i), .retAddr 2004]) (h' := h) (fun _ => rfl) ?_
  refine rt_cE rfl rfl hch ?_
  have hb : (tx 4).getD i 0 < 256 := by
    by_cases e0 : i = 0
    · subst e0; decide
    by_cases e1 : i = 1
    · subst e1; decide
    omega
  exact rt_r rfl (tp_ch (by omega)) ⟨rfl, rfl⟩
theorem cst_char6 {i : Nat} (hi : i < 2) : rt_ X (d + 3) 182 0 [some (.retAddr 6), some (.int (nI i))] [] h (fun r h' => r = some (.int (nI ((tx 6).getD i 0))) ∧ h' = h) := by
  have hch : rt_ X (d + 2) 184 0 [some (.retAddr 2006), some (.int (nI i))] [] h (fun r h' => r = some (.int (nI ((tx 6).getD i 0))) ∧ h' = h) := by
    refine rt_k (k := 3) (pc' := 3) (L' := [some (.retAddr 2006), some (.int (nI i))]) (st' := [.int (nI 2), .int (nI i)]) (h' := h) (fun _ => rfl) ?_
    refine rt_cE rfl rfl (jd_ci hi (by decide)) ?_
    by_cases e0 : i = 0
    · subst e0
      exact ⟨10, some (.int (nI 60)), h, rfl, rfl, rfl⟩
    by_cases e1 : i = 1
    · subst e1
      exact ⟨10, some (.int (nI 61)), h, rfl, rfl, rfl⟩
    omega
  refine rt_k (k := 1) (pc' := 1) (L' := [some (.retAddr 6), some (.int (nI i))]) (st' := [.retAddr 6]) (h' := h) (fun _ => rfl) ?_
  refine rt_e (n1 := 20) (v := some (.int (nI 1))) (h' := h) rfl rfl rfl ?_
  refine rt_k (k := 4) (pc' := 12) (L' := [some (.retAddr 6), some (.int (nI i))]) (st' := [.int (nI i), .retAddr 2006]) (h' := h) (fun _ => rfl) ?_
  refine rt_cE rfl rfl hch ?_
  have hb : (tx 6).getD i 0 < 256 := by
    by_cases e0 : i = 0
    · subst e0; decide
    by_cases e1 : i = 1
    · subst e1; decide
    omega
  exact rt_r rfl (tp_ch (by omega)) ⟨rfl, rfl⟩
theorem cst_char7 {i : Nat} (hi : i < 2) : rt_ X (d + 3) 182 0 [some (.retAddr 7), some (.int (nI i))] [] h (fun r h' => r = some (.int (nI ((tx 7).getD i 0))) ∧ h' = h) := by
  have hch : rt_ X (d + 2) 184 0 [some (.retAddr 2007), some (.int (nI i))] [] h (fun r h' => r = some (.int (nI ((tx 7).getD i 0))) ∧ h' = h) := by
    refine rt_k (k := 3) (pc' := 3) (L' := [some (.retAddr 2007), some (.int (nI i))]) (st' := [.int (nI 2), .int (nI i)]) (h' := h) (fun _ => rfl) ?_
    refine rt_cE rfl rfl (jd_ci hi (by decide)) ?_
    by_cases e0 : i = 0
    · subst e0
      exact ⟨10, some (.int (nI 62)), h, rfl, rfl, rfl⟩
    by_cases e1 : i = 1
    · subst e1
      exact ⟨10, some (.int (nI 61)), h, rfl, rfl, rfl⟩
    omega
  refine rt_k (k := 1) (pc' := 1) (L' := [some (.retAddr 7), some (.int (nI i))]) (st' := [.retAddr 7]) (h' := h) (fun _ => rfl) ?_
  refine rt_e (n1 := 20) (v := some (.int (nI 1))) (h' := h) rfl rfl rfl ?_
  refine rt_k (k := 4) (pc' := 12) (L' := [some (.retAddr 7), some (.int (nI i))]) (st' := [.int (nI i), .retAddr 2007]) (h' := h) (fun _ => rfl) ?_
  refine rt_cE rfl rfl hch ?_
  have hb : (tx 7).getD i 0 < 256 := by
    by_cases e0 : i = 0
    · subst e0; decide
    by_cases e1 : i = 1
    · subst e1; decide
    omega
  exact rt_r rfl (tp_ch (by omega)) ⟨rfl, rfl⟩
theorem cst_char8 {i : Nat} (hi : i < 1) : rt_ X (d + 3) 182 0 [some (.retAddr 8), some (.int (nI i))] [] h (fun r h' => r = some (.int (nI ((tx 8).getD i 0))) ∧ h' = h) := by
  have hch : rt_ X (d + 2) 184 0 [some (.retAddr 2008), some (.int (nI i))] [] h (fun r h' => r = some (.int (nI ((tx 8).getD i 0))) ∧ h' = h) := by
    refine rt_k (k := 3) (pc' := 3) (L' := [some (.retAddr 2008), some (.int (nI i))]) (st' := [.int (nI 1), .int (nI i)]) (h' := h) (fun _ => rfl) ?_
    refine rt_cE rfl rfl (jd_ci hi (by decide)) ?_
    by_cases e0 : i = 0
    · subst e0
      exact ⟨10, some (.int (nI 60)), h, rfl, rfl, rfl⟩
    omega
  refine rt_k (k := 1) (pc' := 1) (L' := [some (.retAddr 8), some (.int (nI i))]) (st' := [.retAddr 8]) (h' := h) (fun _ => rfl) ?_
  refine rt_e (n1 := 20) (v := some (.int (nI 1))) (h' := h) rfl rfl rfl ?_
  refine rt_k (k := 4) (pc' := 12) (L' := [some (.retAddr 8), some (.int (nI i))]) (st' := [.int (nI i), .retAddr 2008]) (h' := h) (fun _ => rfl) ?_
  refine rt_cE rfl rfl hch ?_
  have hb : (tx 8).getD i 0 < 256 := by
    by_cases e0 : i = 0
    · subst e0; decide
    omega
  exact rt_r rfl (tp_ch (by omega)) ⟨rfl, rfl⟩
theorem cst_char9 {i : Nat} (hi : i < 1) : rt_ X (d + 3) 182 0 [some (.retAddr 9), some (.int (nI i))] [] h (fun r h' => r = some (.int (nI ((tx 9).getD i 0))) ∧ h' = h) := by
  have hch : rt_ X (d + 2) 184 0 [some (.retAddr 2009), some (.int (nI i))] [] h (fun r h' => r = some (.int (nI ((tx 9).getD i 0))) ∧ h' = h) := by
    refine rt_k (k := 3) (pc' := 3) (L' := [some (.retAddr 2009), some (.int (nI i))]) (st' := [.int (nI 1), .int (nI i)]) (h' := h) (fun _ => rfl) ?_
    refine rt_cE rfl rfl (jd_ci hi (by decide)) ?_
    by_cases e0 : i = 0
    · subst e0
      exact ⟨10, some (.int (nI 62)), h, rfl, rfl, rfl⟩
    omega
  refine rt_k (k := 1) (pc' := 1) (L' := [some (.retAddr 9), some (.int (nI i))]) (st' := [.retAddr 9]) (h' := h) (fun _ => rfl) ?_
  refine rt_e (n1 := 20) (v := some (.int (nI 1))) (h' := h) rfl rfl rfl ?_
  refine rt_k (k := 4) (pc' := 12) (L' := [some (.retAddr 9), some (.int (nI i))]) (st' := [.int (nI i), .retAddr 2009]) (h' := h) (fun _ => rfl) ?_
  refine rt_cE rfl rfl hch ?_
  have hb : (tx 9).getD i 0 < 256 := by
    by_cases e0 : i = 0
    · subst e0; decide
    omega
  exact rt_r rfl (tp_ch (by omega)) ⟨rfl, rfl⟩
theorem cst_char10 {i : Nat} (hi : i < 1) : rt_ X (d + 3) 182 0 [some (.retAddr 10), some (.int (nI i))] [] h (fun r h' => r = some (.int (nI ((tx 10).getD i 0))) ∧ h' = h) := by
  have hch : rt_ X (d + 2) 184 0 [some (.retAddr 2010), some (.int (nI i))] [] h (fun r h' => r = some (.int (nI ((tx 10).getD i 0))) ∧ h' = h) := by
    refine rt_k (k := 3) (pc' := 3) (L' := [some (.retAddr 2010), some (.int (nI i))]) (st' := [.int (nI 1), .int (nI i)]) (h' := h) (fun _ => rfl) ?_
    refine rt_cE rfl rfl (jd_ci hi (by decide)) ?_
    by_cases e0 : i = 0
    · subst e0
      exact ⟨10, some (.int (nI 94)), h, rfl, rfl, rfl⟩
    omega
  refine rt_k (k := 1) (pc' := 1) (L' := [some (.retAddr 10), some (.int (nI i))]) (st' := [.retAddr 10]) (h' := h) (fun _ => rfl) ?_
  refine rt_e (n1 := 20) (v := some (.int (nI 1))) (h' := h) rfl rfl rfl ?_
  refine rt_k (k := 4) (pc' := 12) (L' := [some (.retAddr 10), some (.int (nI i))]) (st' := [.int (nI i), .retAddr 2010]) (h' := h) (fun _ => rfl) ?_
  refine rt_cE rfl rfl hch ?_
  have hb : (tx 10).getD i 0 < 256 := by
    by_cases e0 : i = 0
    · subst e0; decide
    omega
  exact rt_r rfl (tp_ch (by omega)) ⟨rfl, rfl⟩
theorem cst_char11 {i : Nat} (hi : i < 1) : rt_ X (d + 3) 182 0 [some (.retAddr 11), some (.int (nI i))] [] h (fun r h' => r = some (.int (nI ((tx 11).getD i 0))) ∧ h' = h) := by
  have hch : rt_ X (d + 2) 184 0 [some (.retAddr 2011), some (.int (nI i))] [] h (fun r h' => r = some (.int (nI ((tx 11).getD i 0))) ∧ h' = h) := by
    refine rt_k (k := 3) (pc' := 3) (L' := [some (.retAddr 2011), some (.int (nI i))]) (st' := [.int (nI 1), .int (nI i)]) (h' := h) (fun _ => rfl) ?_
    refine rt_cE rfl rfl (jd_ci hi (by decide)) ?_
    by_cases e0 : i = 0
    · subst e0
      exact ⟨10, some (.int (nI 126)), h, rfl, rfl, rfl⟩
    omega
  refine rt_k (k := 1) (pc' := 1) (L' := [some (.retAddr 11), some (.int (nI i))]) (st' := [.retAddr 11]) (h' := h) (fun _ => rfl) ?_
  refine rt_e (n1 := 20) (v := some (.int (nI 1))) (h' := h) rfl rfl rfl ?_
  refine rt_k (k := 4) (pc' := 12) (L' := [some (.retAddr 11), some (.int (nI i))]) (st' := [.int (nI i), .retAddr 2011]) (h' := h) (fun _ => rfl) ?_
  refine rt_cE rfl rfl hch ?_
  have hb : (tx 11).getD i 0 < 256 := by
    by_cases e0 : i = 0
    · subst e0; decide
    omega
  exact rt_r rfl (tp_ch (by omega)) ⟨rfl, rfl⟩
theorem cst_char12 {i : Nat} (hi : i < 1) : rt_ X (d + 3) 182 0 [some (.retAddr 12), some (.int (nI i))] [] h (fun r h' => r = some (.int (nI ((tx 12).getD i 0))) ∧ h' = h) := by
  have hch : rt_ X (d + 2) 184 0 [some (.retAddr 2012), some (.int (nI i))] [] h (fun r h' => r = some (.int (nI ((tx 12).getD i 0))) ∧ h' = h) := by
    refine rt_k (k := 3) (pc' := 3) (L' := [some (.retAddr 2012), some (.int (nI i))]) (st' := [.int (nI 1), .int (nI i)]) (h' := h) (fun _ => rfl) ?_
    refine rt_cE rfl rfl (jd_ci hi (by decide)) ?_
    by_cases e0 : i = 0
    · subst e0
      exact ⟨10, some (.int (nI 61)), h, rfl, rfl, rfl⟩
    omega
  refine rt_k (k := 1) (pc' := 1) (L' := [some (.retAddr 12), some (.int (nI i))]) (st' := [.retAddr 12]) (h' := h) (fun _ => rfl) ?_
  refine rt_e (n1 := 20) (v := some (.int (nI 1))) (h' := h) rfl rfl rfl ?_
  refine rt_k (k := 4) (pc' := 12) (L' := [some (.retAddr 12), some (.int (nI i))]) (st' := [.int (nI i), .retAddr 2012]) (h' := h) (fun _ => rfl) ?_
  refine rt_cE rfl rfl hch ?_
  have hb : (tx 12).getD i 0 < 256 := by
    by_cases e0 : i = 0
    · subst e0; decide
    omega
  exact rt_r rfl (tp_ch (by omega)) ⟨rfl, rfl⟩
end ST

