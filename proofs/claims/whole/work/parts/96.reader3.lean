/-! THE READER, 3: numbers, marks. -/
section RF
variable {X : Nat × (Nat → Int32)} {d : Nat} {h : List va_E} {Q : Option Value → List va_E → Prop} {T : List Nat} {f b p : Nat} {ws : List kW}
theorem dv_sn (w : kW) (c : Nat) : dv (w ++ [c]) = dv w * 10 + (c - 48) := by unfold dv; rw [List.foldl_append]; rfl
theorem sl_sn {s i : Nat} (h1 : s ≤ i) (h2 : i < T.length) : sl T s (i + 1) = sl T s i ++ [T.getD i 0] := by
  rw [sl_app h1 (Nat.le_succ i), sl_cons (Nat.lt_succ_self i) (by omega), sl_nil (Nat.le_refl _)]
theorem rd_na1 (C : rC h T f b p) {s t : Nat} (hst : s ≤ t) (ht : t ≤ T.length) (hd : ∀ i, s ≤ i → i < t → dg (T.getD i 0) = true) (i : Nat) (hi : s ≤ i ∧ i ≤ t) : rt_ X (d + 1) 35 34 [some (.ref 3), some (.int (nI s)), some (.int (nI t)), some (.long (lI (dv (sl T s i)))), none, some (.int (nI i))] [] h (fun v h' => v = some (.long (lI (dv (sl T s t)))) ∧ h' = h) := by
  obtain ⟨P, c, h1, h2, h3⟩ := id C
  have hT := P.2.2.1
  have p1 := P.1
  refine rt_k (k := 2) (pc' := 37) (L' := [some (.ref 3), some (.int (nI s)), some (.int (nI t)), some (.long (lI (dv (sl T s i)))), none, some (.int (nI i))]) (st' := [.int (nI t), .int (nI i)]) (h' := h) (fun _ => rfl) ?_
  refine rt_ige rfl (by omega) (by omega) (fun z => ?_) (fun z => ?_)
  ·
    have e : i = t := by omega
    refine rt_k (k := 1) (pc' := 67) (L' := [some (.ref 3), some (.int (nI s)), some (.int (nI t)), some (.long (lI (dv (sl T s i)))), none, some (.int (nI i))]) (st' := [.long (lI (dv (sl T s i)))]) (h' := h) (fun _ => rfl) ?_
    exact rt_r (v := some (.long (lI (dv (sl T s i))))) rfl rfl (⟨by rw [e], rfl⟩)
  have hdi := of_decide_eq_true (hd i hi.1 z)
  have b1 := tp_lt P i
  refine rt_k (k := 4) (pc' := 46) (L' := [some (.ref 3), some (.int (nI s)), some (.int (nI t)), some (.long (lI (dv (sl T s i)))), none, some (.int (nI i))]) (st' := [.ref 3, .long ((lI (dv (sl T s i))) * (10))]) (h' := h) (fun _ => rfl) ?_
  refine rt_gf rfl c rfl rfl ?_
  refine rt_k (k := 1) (pc' := 51) (L' := [some (.ref 3), some (.int (nI s)), some (.int (nI t)), some (.long (lI (dv (sl T s i)))), none, some (.int (nI i))]) (st' := [.int (nI i), .ref 1, .long ((lI (dv (sl T s i))) * (10))]) (h' := h) (fun _ => rfl) ?_
  refine rt_cvE rfl (by decide) p1 rfl rfl rfl rfl (tp_at3 P (i := i) (by omega)) ?_
  have e : lI (dv (sl T s i)) * 10 + (nI (T.getD i 0 - 48)).toInt64 = lI (dv (sl T s (i + 1))) := by
    rw [lI_i2l ⟨T.getD i 0 - 48, by omega⟩, show (10 : Int64) = lI 10 from by decide, lI_mul, lI_add, sl_sn hi.1 (by omega), dv_sn]
  refine rt_k (k := 1) (pc' := 56) (L' := [some (.ref 3), some (.int (nI s)), some (.int (nI t)), some (.long (lI (dv (sl T s i)))), none, some (.int (nI i))]) (st' := [.int (nI 48), .int (nI (T.getD i 0)), .long ((lI (dv (sl T s i))) * (10))]) (h' := h) (fun _ => rfl) ?_
  refine rt_sub rfl (by omega) ?_
  refine rt_k (k := 3) (pc' := 60) (L' := [some (.ref 3), some (.int (nI s)), some (.int (nI t)), some (.long (((lI (dv (sl T s i))) * (10)) + ((nI ((T.getD i 0) - 48)).toInt64))), none, some (.int (nI i))]) (st' := []) (h' := h) (fun _ => rfl) ?_
  refine rt_k (k := 0) (pc' := 60) (L' := [some (.ref 3), some (.int (nI s)), some (.int (nI t)), some (.long (lI (dv (sl T s (i + 1))))), none, some (.int (nI i))]) (st' := []) (h' := h) (fun _ => by rw [← e]; rfl) ?_
  refine rt_inc (c := 1) rfl rfl ?_
  refine rt_k (k := 1) (pc' := 34) (L' := [some (.ref 3), some (.int (nI s)), some (.int (nI t)), some (.long (lI (dv (sl T s (i + 1))))), none, some (.int (nI (i + 1)))]) (st' := []) (h' := h) (fun _ => rfl) ?_
  exact rd_na1 C hst ht hd (i + 1) ⟨by omega, by omega⟩
termination_by t - i
def nmL (m : Nat) (w : kW) : Int64 := if okN m w = true then lI (dv w) else -1
theorem rd_numAt (C : rC h T f b p) {s t m : Nat} (hst : s ≤ t) (ht : t ≤ T.length) (hm : t - s ≤ m) (hd : ∀ i, s ≤ i → i < t → dg (T.getD i 0) = true) : rt_ X (d + 1) 35 0 [some (.ref 3), some (.int (nI s)), some (.int (nI t)), none, none, none] [] h (fun v h' => v = some (.long (nmL m (sl T s t))) ∧ h' = h) := by
  obtain ⟨P, c, h1, h2, h3⟩ := id C
  have hT := P.2.2.1
  have p1 := P.1
  have hl : (sl T s t).length = t - s := sl_len ht
  have ok : okN m (sl T s t) = true ↔ 1 ≤ t - s ∧ (t - s = 1 ∨ ¬ T.getD s 0 = 48) := by
    unfold okN
    rw [hl]
    by_cases q : s < t
    · rw [sl_getD (i := 0) (by omega)]
      simp only [Bool.and_eq_true, Bool.or_eq_true, decide_eq_true_eq, Bool.not_eq_true', decide_eq_false_iff_not, Nat.add_zero]
      omega
    · simp only [Bool.and_eq_true, Bool.or_eq_true, decide_eq_true_eq, Bool.not_eq_true', decide_eq_false_iff_not]
      omega
  have good : okN m (sl T s t) = true → rt_ X (d + 1) 35 29 [some (.ref 3), some (.int (nI s)), some (.int (nI t)), none, none, none] [] h (fun v h' => v = some (.long (nmL m (sl T s t))) ∧ h' = h) := fun w => by
    unfold nmL
    rw [if_pos w]
    refine rt_k (k := 4) (pc' := 34) (L' := [some (.ref 3), some (.int (nI s)), some (.int (nI t)), some (.long (lI (dv (sl T s s)))), none, some (.int (nI s))]) (st' := []) (h' := h) (fun _ => by rw [sl_nil (Nat.le_refl _)]; rfl) ?_
    exact rd_na1 C hst ht hd s ⟨Nat.le_refl _, hst⟩
  have bad : ¬ okN m (sl T s t) = true → rt_ X (d + 1) 35 25 [some (.ref 3), some (.int (nI s)), some (.int (nI t)), none, none, none] [] h (fun v h' => v = some (.long (nmL m (sl T s t))) ∧ h' = h) := fun w => by
    unfold nmL
    rw [if_neg w]
    refine rt_k (k := 1) (pc' := 28) (L' := [some (.ref 3), some (.int (nI s)), some (.int (nI t)), none, none, none]) (st' := [.long (-1)]) (h' := h) (fun _ => rfl) ?_
    exact rt_r (v := some (.long (-1))) rfl rfl (⟨rfl, rfl⟩)
  refine rt_k (k := 2) (pc' := 2) (L' := [some (.ref 3), some (.int (nI s)), some (.int (nI t)), none, none, none]) (st' := [.int (nI t), .int (nI s)]) (h' := h) (fun _ => rfl) ?_
  refine rt_ieq rfl (by omega) (by omega) (fun z => ?_) (fun z => ?_)
  ·
    exact bad (fun w => by have := (ok.mp w).1; omega)
  refine rt_k (k := 2) (pc' := 7) (L' := [some (.ref 3), some (.int (nI s)), some (.int (nI t)), none, none, none]) (st' := [.int (nI s), .int (nI t)]) (h' := h) (fun _ => rfl) ?_
  refine rt_sub rfl (by omega) ?_
  refine rt_k (k := 1) (pc' := 9) (L' := [some (.ref 3), some (.int (nI s)), some (.int (nI t)), none, none, none]) (st' := [.int (nI 1), .int (nI (t - s))]) (h' := h) (fun _ => rfl) ?_
  refine rt_ile rfl (by omega) (by decide) (fun z2 => ?_) (fun z2 => ?_)
  ·
    exact good (ok.mpr ⟨by omega, by omega⟩)
  have b1 := tp_lt P s
  refine rt_k (k := 1) (pc' := 13) (L' := [some (.ref 3), some (.int (nI s)), some (.int (nI t)), none, none, none]) (st' := [.ref 3]) (h' := h) (fun _ => rfl) ?_
  refine rt_gf rfl c rfl rfl ?_
  refine rt_k (k := 1) (pc' := 17) (L' := [some (.ref 3), some (.int (nI s)), some (.int (nI t)), none, none, none]) (st' := [.int (nI s), .ref 1]) (h' := h) (fun _ => rfl) ?_
  refine rt_cvE rfl (by decide) p1 rfl rfl rfl rfl (tp_at3 P (i := s) (by omega)) ?_
  refine rt_k (k := 1) (pc' := 22) (L' := [some (.ref 3), some (.int (nI s)), some (.int (nI t)), none, none, none]) (st' := [.int (nI 48), .int (nI (T.getD s 0))]) (h' := h) (fun _ => rfl) ?_
  refine rt_ine rfl (by omega) (by decide) (fun z3 => ?_) (fun z3 => ?_)
  ·
    exact good (ok.mpr ⟨by omega, Or.inr z3⟩)
  exact bad (fun w => by rcases (ok.mp w).2 with q | q; omega; exact q z3)
theorem rd_takes (C : rC h T f b p) (hp : p ≤ b) {k : Nat} (hk : k < 256) : rt_ X (d + 1) 36 0 [some (.ref 3), some (.int (nI k)), none] [] h (fun v h' => ((p < b ∧ T.getD p 0 = k) ∧ v = some (.int 1) ∧ fr_ r3 h h' ∧ rC h' T f b (p + 1)) ∨ (¬ (p < b ∧ T.getD p 0 = k) ∧ v = some (.int 0) ∧ h' = h)) := by
  obtain ⟨P, c, h1, h2, h3⟩ := id C
  have hT := P.2.2.1
  have p1 := P.1
  refine rt_k (k := 1) (pc' := 1) (L' := [some (.ref 3), some (.int (nI k)), none]) (st' := [.ref 3]) (h' := h) (fun _ => rfl) ?_
  refine rt_gf rfl c rfl rfl ?_
  refine rt_k (k := 1) (pc' := 5) (L' := [some (.ref 3), some (.int (nI k)), none]) (st' := [.ref 3, .int (nI p)]) (h' := h) (fun _ => rfl) ?_
  refine rt_gf rfl c rfl rfl ?_
  refine rt_ige rfl (by omega) (by omega) (fun z => ?_) (fun z => ?_)
  ·
    refine rt_k (k := 5) (pc' := 47) (L' := [some (.ref 3), some (.int (nI k)), some (.int (nI 0))]) (st' := [.int (nI 0)]) (h' := h) (fun _ => rfl) ?_
    exact rt_r (v := some (.int (nI 0))) rfl rfl (Or.inr ⟨by omega, rfl, rfl⟩)
  have b1 := tp_lt P p
  refine rt_k (k := 1) (pc' := 12) (L' := [some (.ref 3), some (.int (nI k)), none]) (st' := [.ref 3]) (h' := h) (fun _ => rfl) ?_
  refine rt_gf rfl c rfl rfl ?_
  refine rt_k (k := 1) (pc' := 16) (L' := [some (.ref 3), some (.int (nI k)), none]) (st' := [.ref 3, .ref 1]) (h' := h) (fun _ => rfl) ?_
  refine rt_gf rfl c rfl rfl ?_
  refine rt_cvE rfl (by decide) p1 rfl rfl rfl rfl (tp_at3 P (i := p) (by omega)) ?_
  refine rt_k (k := 1) (pc' := 23) (L' := [some (.ref 3), some (.int (nI k)), none]) (st' := [.int (nI k), .int (nI (T.getD p 0))]) (h' := h) (fun _ => rfl) ?_
  refine rt_ine rfl (by omega) (by omega) (fun z2 => ?_) (fun z2 => ?_)
  ·
    refine rt_k (k := 5) (pc' := 47) (L' := [some (.ref 3), some (.int (nI k)), some (.int (nI 0))]) (st' := [.int (nI 0)]) (h' := h) (fun _ => rfl) ?_
    exact rt_r (v := some (.int (nI 0))) rfl rfl (Or.inr ⟨fun w => z2 w.2, rfl, rfl⟩)
  refine rt_k (k := 7) (pc' := 38) (L' := [some (.ref 3), some (.int (nI k)), some (.int (nI 1))]) (st' := [.ref 3, .ref 3]) (h' := h) (fun _ => rfl) ?_
  refine rt_gf rfl c rfl rfl ?_
  refine rt_k (k := 1) (pc' := 42) (L' := [some (.ref 3), some (.int (nI k)), some (.int (nI 1))]) (st' := [.int (nI 1), .int (nI p), .ref 3]) (h' := h) (fun _ => rfl) ?_
  refine rt_add rfl ?_
  refine rt_pf rfl c ⟨rfl, (show 3 < 4 by decide), rfl⟩ ?_
  have f_1 : fr_ (r3) h (h.set 3 (.inr (2, [.ref 1, .int (nI f), .int (nI b), .int (nI (p + 1))]))) := fr_set (e' := .inr (2, [.ref 1, .int (nI f), .int (nI b), .int (nI (p + 1))])) c (by rfl) (by first | decide | simp)
  have c_2 := hs_ne (a := 3) (e' := .inr (2, [.ref 1, .int (nI f), .int (nI b), .int (nI (p + 1))])) p1 (by decide)
  have c_3 := hs_self (e' := .inr (2, [.ref 1, .int (nI f), .int (nI b), .int (nI (p + 1))])) c
  refine rt_k (k := 1) (pc' := 47) (L' := [some (.ref 3), some (.int (nI k)), some (.int (nI 1))]) (st' := [.int (nI 1)]) (h' := (h.set 3 (.inr (2, [.ref 1, .int (nI f), .int (nI b), .int (nI (p + 1))])))) (fun _ => rfl) ?_
  exact rt_r (v := some (.int (nI 1))) rfl rfl (Or.inl ⟨⟨z, z2⟩, rfl, f_1, tp_fr P f_1, c_3, h1, h2, by omega⟩)
theorem rC.at {h' : List va_E} (C : rC h T f b p) : ∃ g, h[3]? = some (.inr (2, [.ref 1, .int (nI f), .int (nI b), .int (nI p)])) ∧ h[1]? = some (.inr (1, [.ref g, .int (nI T.length)])) := ⟨2, C.2.1, C.1.1⟩
/-- the digits from s on, ten at most, are passed -/
theorem rd_tn1 {s : Nat} (p : Nat) (h : List va_E) (C : rC h T f b p) (hs : s ≤ p ∧ p ≤ b ∧ p ≤ s + 10) (hd : ∀ i, s ≤ i → i < p → dg (T.getD i 0) = true) (k : ∀ h' p', fr_ r3 h h' → rC h' T f b p' → s ≤ p' ∧ p' ≤ b ∧ p' ≤ s + 10 → (∀ i, s ≤ i → i < p' → dg (T.getD i 0) = true) → (p' = b ∨ p' = s + 10 ∨ dg (T.getD p' 0) = false) → rt_ X (d + 2) 33 57 [some (.ref 3), some (.int (nI s))] [] h' Q) : rt_ X (d + 2) 33 5 [some (.ref 3), some (.int (nI s))] [] h Q := by
  obtain ⟨P, c, h1, h2, h3⟩ := id C
  have hT := P.2.2.1
  have p1 := P.1
  refine rt_k (k := 1) (pc' := 6) (L' := [some (.ref 3), some (.int (nI s))]) (st' := [.ref 3]) (h' := h) (fun _ => rfl) ?_
  refine rt_gf rfl c rfl rfl ?_
  refine rt_k (k := 1) (pc' := 10) (L' := [some (.ref 3), some (.int (nI s))]) (st' := [.ref 3, .int (nI p)]) (h' := h) (fun _ => rfl) ?_
  refine rt_gf rfl c rfl rfl ?_
  refine rt_ige rfl (by omega) (by omega) (fun z => ?_) (fun z => ?_)
  ·
    exact k h p fr_rf C hs hd (Or.inl (by omega))
  refine rt_k (k := 1) (pc' := 17) (L' := [some (.ref 3), some (.int (nI s))]) (st' := [.ref 3]) (h' := h) (fun _ => rfl) ?_
  refine rt_gf rfl c rfl rfl ?_
  refine rt_k (k := 1) (pc' := 21) (L' := [some (.ref 3), some (.int (nI s))]) (st' := [.int (nI s), .int (nI p)]) (h' := h) (fun _ => rfl) ?_
  refine rt_sub rfl (by omega) ?_
  refine rt_k (k := 1) (pc' := 24) (L' := [some (.ref 3), some (.int (nI s))]) (st' := [.int (nI 9), .int (nI (p - s))]) (h' := h) (fun _ => rfl) ?_
  refine rt_igt rfl (by omega) (by decide) (fun z2 => ?_) (fun z2 => ?_)
  ·
    exact k h p fr_rf C hs hd (Or.inr (Or.inl (by omega)))
  have b1 := tp_lt P p
  refine rt_k (k := 1) (pc' := 28) (L' := [some (.ref 3), some (.int (nI s))]) (st' := [.ref 3]) (h' := h) (fun _ => rfl) ?_
  refine rt_gf rfl c rfl rfl ?_
  refine rt_k (k := 1) (pc' := 32) (L' := [some (.ref 3), some (.int (nI s))]) (st' := [.ref 3, .ref 1]) (h' := h) (fun _ => rfl) ?_
  refine rt_gf rfl c rfl rfl ?_
  refine rt_cvE rfl (by decide) p1 rfl rfl rfl rfl (tp_at3 P (i := p) (by omega)) ?_
  refine rt_cE rfl rfl (rd_dig b1) ?_
  refine rt_pe rfl (fun z3 => ?_) (fun z3 => ?_)
  ·
    exact k h p fr_rf C hs hd (Or.inr (Or.inr (Bool.not_eq_true _ ▸ z3)))
  refine rt_k (k := 2) (pc' := 46) (L' := [some (.ref 3), some (.int (nI s))]) (st' := [.ref 3, .ref 3]) (h' := h) (fun _ => rfl) ?_
  refine rt_gf rfl c rfl rfl ?_
  refine rt_k (k := 1) (pc' := 50) (L' := [some (.ref 3), some (.int (nI s))]) (st' := [.int (nI 1), .int (nI p), .ref 3]) (h' := h) (fun _ => rfl) ?_
  refine rt_add rfl ?_
  refine rt_pf rfl c ⟨rfl, (show 3 < 4 by decide), rfl⟩ ?_
  have f_4 : fr_ (r3) h (h.set 3 (.inr (2, [.ref 1, .int (nI f), .int (nI b), .int (nI (p + 1))]))) := fr_set (e' := .inr (2, [.ref 1, .int (nI f), .int (nI b), .int (nI (p + 1))])) c (by rfl) (by first | decide | simp)
  have c_5 := hs_ne (a := 3) (e' := .inr (2, [.ref 1, .int (nI f), .int (nI b), .int (nI (p + 1))])) p1 (by decide)
  have c_6 := hs_self (e' := .inr (2, [.ref 1, .int (nI f), .int (nI b), .int (nI (p + 1))])) c
  refine rt_k (k := 1) (pc' := 5) (L' := [some (.ref 3), some (.int (nI s))]) (st' := []) (h' := (h.set 3 (.inr (2, [.ref 1, .int (nI f), .int (nI b), .int (nI (p + 1))])))) (fun _ => rfl) ?_
  exact rd_tn1 (p + 1) _ ⟨tp_fr P f_4, c_6, h1, h2, by omega⟩ ⟨by omega, by omega, by omega⟩ (fun i a e => by
    by_cases q : i = p
    · subst q; exact z3
    · exact hd i a (by omega)) (fun h' p' f1 => k h' p' (fr_tr f_4 f1))
termination_by b - p
theorem dv_lt : ∀ (w : kW) (n : Nat), (∀ c ∈ w, dg c = true) → w.foldl (fun n c => n * 10 + (c - 48)) n + 1 ≤ (n + 1) * 10 ^ w.length
  | [], n, _ => by simp
  | c :: w, n, h => by
    have hc := of_decide_eq_true (h c List.mem_cons_self)
    have ih := dv_lt w (n * 10 + (c - 48)) (fun x hx => h x (List.mem_cons_of_mem _ hx))
    rw [List.foldl_cons, List.length_cons, Nat.pow_succ]
    refine Nat.le_trans ih ?_
    have : n * 10 + (c - 48) + 1 ≤ (n + 1) * 10 := by omega
    calc (n * 10 + (c - 48) + 1) * 10 ^ w.length ≤ (n + 1) * 10 * 10 ^ w.length := Nat.mul_le_mul_right _ this
      _ = (n + 1) * (10 ^ w.length * 10) := by rw [Nat.mul_assoc, Nat.mul_comm 10]
theorem dv_b {w : kW} {m : Nat} (h : ∀ c ∈ w, dg c = true) (hl : w.length ≤ m) : dv w < 10 ^ m := by
  have := dv_lt w 0 h
  have e : 10 ^ w.length ≤ 10 ^ m := Nat.pow_le_pow_right (by decide) hl
  unfold dv
  omega
theorem sl_allP {P : Nat → Bool} {s t : Nat} (ht : t ≤ T.length) (hd : ∀ i, s ≤ i → i < t → P (T.getD i 0) = true) : ∀ c ∈ sl T s t, P c = true := fun c hc => by
  obtain ⟨i, hi⟩ := gt_mem hc
  have hl := gt_lt hi
  rw [sl_len ht] at hl
  rw [sl_get (by omega)] at hi
  have := hd (s + i) (by omega) (by omega)
  rw [List.getD_eq_getElem?_getD, hi] at this
  exact this
theorem rd_takeNum (C : rC h T f b p) (hp : p ≤ b) : rt_ X (d + 2) 33 0 [some (.ref 3), none] [] h (fun v h' => fr_ r3 h h' ∧ ((∃ n p', pNum 9 (sl T p b) = some (n, sl T p' b) ∧ n < 1000000000 ∧ v = some (.long (lI n)) ∧ p ≤ p' ∧ p' ≤ b ∧ rC h' T f b p') ∨ (pNum 9 (sl T p b) = none ∧ v = some (.long (-1)) ∧ ∃ p', p' ≤ b ∧ rC h' T f b p'))) := by
  obtain ⟨P, c, h1, h2, h3⟩ := id C
  have hT := P.2.2.1
  refine rt_k (k := 1) (pc' := 1) (L' := [some (.ref 3), none]) (st' := [.ref 3]) (h' := h) (fun _ => rfl) ?_
  refine rt_gf rfl c rfl rfl ?_
  refine rt_k (k := 1) (pc' := 5) (L' := [some (.ref 3), some (.int (nI p))]) (st' := []) (h' := h) (fun _ => rfl) ?_
  refine rd_tn1 (s := p) p h C ⟨Nat.le_refl _, hp, by omega⟩ (fun i a e => by omega) (fun h' q f1 C1 hq hd hend => ?_)
  obtain ⟨P1, c1, -, -, hq3⟩ := id C1
  refine rt_k (k := 1) (pc' := 58) (L' := [some (.ref 3), some (.int (nI p))]) (st' := [.ref 3]) (h' := h') (fun _ => rfl) ?_
  refine rt_gf rfl c1 rfl rfl ?_
  refine rt_k (k := 1) (pc' := 62) (L' := [some (.ref 3), some (.int (nI p))]) (st' := [.int (nI p), .int (nI q)]) (h' := h') (fun _ => rfl) ?_
  refine rt_sub rfl (by omega) ?_
  refine rt_k (k := 1) (pc' := 65) (L' := [some (.ref 3), some (.int (nI p))]) (st' := [.int (nI 9), .int (nI (q - p))]) (h' := h') (fun _ => rfl) ?_
  refine rt_ile rfl (by omega) (by decide) (fun z => ?_) (fun z => ?_)
  rotate_left
  ·
    have hno : pNum 9 (sl T p b) = none := by
      have hw := sl_while_n (P := dg) h2 (q - p) p q rfl hq.1 hq.2.1 hd
      unfold pNum
      rw [if_neg]
      unfold okN
      simp only [Bool.and_eq_true, decide_eq_true_eq]
      omega
    refine rt_k (k := 2) (pc' := 83) (L' := [some (.ref 3), some (.int (nI p))]) (st' := [.long (-1)]) (h' := h') (fun _ => rfl) ?_
    exact rt_r (v := some (.long (-1))) rfl rfl (⟨f1, Or.inr ⟨hno, rfl, q, hq.2.1, C1⟩⟩)
  have hend' : q = b ∨ dg (T.getD q 0) = false := by
    rcases hend with e | e | e
    · exact Or.inl e
    · omega
    · exact Or.inr e
  obtain ⟨w1, w2⟩ := sl_while h2 (q - p) p q rfl hq.1 hq.2.1 hd hend'
  have eN : pNum 9 (sl T p b) = if okN 9 (sl T p q) = true then some (dv (sl T p q), sl T q b) else none := by unfold pNum; rw [w1, w2]
  refine rt_k (k := 3) (pc' := 77) (L' := [some (.ref 3), some (.int (nI p))]) (st' := [.ref 3, .int (nI p), .ref 3]) (h' := h') (fun _ => rfl) ?_
  refine rt_gf rfl c1 rfl rfl ?_
  refine rt_cvE rfl (by decide) c1 rfl rfl rfl rfl (rd_numAt (m := 9) C1 hq.1 (by omega) z hd) ?_
  by_cases ok : okN 9 (sl T p q) = true
  · have e1 : nmL 9 (sl T p q) = lI (dv (sl T p q)) := by unfold nmL; rw [if_pos ok]
    rw [if_pos ok] at eN
    have hb := dv_b (m := 9) (sl_allP (by omega) hd) (by rw [sl_len (by omega)]; exact z)
    rw [e1]
    exact rt_r (v := some (.long (lI (dv (sl T p q))))) rfl rfl ⟨f1, Or.inl ⟨_, q, eN, hb, rfl, hq.1, hq.2.1, C1⟩⟩
  · have e1 : nmL 9 (sl T p q) = -1 := by unfold nmL; rw [if_neg ok]
    rw [if_neg ok] at eN
    rw [e1]
    exact rt_r (v := some (.long (-1))) rfl rfl ⟨f1, Or.inr ⟨eN, rfl, q, hq.2.1, C1⟩⟩
/-- the bytes of a mark from s on, nine at most, are passed -/
theorem rd_tm1 {s : Nat} (p : Nat) (h : List va_E) (C : rC h T f b p) (hs : s ≤ p ∧ p ≤ b ∧ p ≤ s + 9) (hd : ∀ i, s ≤ i → i < p → mkb (T.getD i 0) = true) (k : ∀ h' p', fr_ r3 h h' → rC h' T f b p' → s ≤ p' ∧ p' ≤ b ∧ p' ≤ s + 9 → (∀ i, s ≤ i → i < p' → mkb (T.getD i 0) = true) → (p' = b ∨ p' = s + 9 ∨ mkb (T.getD p' 0) = false) → rt_ X (d + 2) 38 86 [some (.ref 3), some (.int (nI s)), some (.int (tB (∀ i, s ≤ i → i < p' → dg (T.getD i 0) = true)))] [] h' Q) : rt_ X (d + 2) 38 7 [some (.ref 3), some (.int (nI s)), some (.int (tB (∀ i, s ≤ i → i < p → dg (T.getD i 0) = true)))] [] h Q := by
  obtain ⟨P, c, h1, h2, h3⟩ := id C
  have hT := P.2.2.1
  have p1 := P.1
  refine rt_k (k := 1) (pc' := 8) (L' := [some (.ref 3), some (.int (nI s)), some (.int (tB (∀ i, s ≤ i → i < p → dg (T.getD i 0) = true)))]) (st' := [.ref 3]) (h' := h) (fun _ => rfl) ?_
  refine rt_gf rfl c rfl rfl ?_
  refine rt_k (k := 1) (pc' := 12) (L' := [some (.ref 3), some (.int (nI s)), some (.int (tB (∀ i, s ≤ i → i < p → dg (T.getD i 0) = true)))]) (st' := [.ref 3, .int (nI p)]) (h' := h) (fun _ => rfl) ?_
  refine rt_gf rfl c rfl rfl ?_
  refine rt_ige rfl (by omega) (by omega) (fun z => ?_) (fun z => ?_)
  ·
    exact k h p fr_rf C hs hd (Or.inl (by omega))
  refine rt_k (k := 1) (pc' := 19) (L' := [some (.ref 3), some (.int (nI s)), some (.int (tB (∀ i, s ≤ i → i < p → dg (T.getD i 0) = true)))]) (st' := [.ref 3]) (h' := h) (fun _ => rfl) ?_
  refine rt_gf rfl c rfl rfl ?_
  refine rt_k (k := 1) (pc' := 23) (L' := [some (.ref 3), some (.int (nI s)), some (.int (tB (∀ i, s ≤ i → i < p → dg (T.getD i 0) = true)))]) (st' := [.int (nI s), .int (nI p)]) (h' := h) (fun _ => rfl) ?_
  refine rt_sub rfl (by omega) ?_
  refine rt_k (k := 1) (pc' := 26) (L' := [some (.ref 3), some (.int (nI s)), some (.int (tB (∀ i, s ≤ i → i < p → dg (T.getD i 0) = true)))]) (st' := [.int (nI 8), .int (nI (p - s))]) (h' := h) (fun _ => rfl) ?_
  refine rt_igt rfl (by omega) (by decide) (fun z2 => ?_) (fun z2 => ?_)
  ·
    exact k h p fr_rf C hs hd (Or.inr (Or.inl (by omega)))
  have b1 := tp_lt P p
  refine rt_k (k := 1) (pc' := 30) (L' := [some (.ref 3), some (.int (nI s)), some (.int (tB (∀ i, s ≤ i → i < p → dg (T.getD i 0) = true)))]) (st' := [.ref 3]) (h' := h) (fun _ => rfl) ?_
  refine rt_gf rfl c rfl rfl ?_
  refine rt_k (k := 1) (pc' := 34) (L' := [some (.ref 3), some (.int (nI s)), some (.int (tB (∀ i, s ≤ i → i < p → dg (T.getD i 0) = true)))]) (st' := [.ref 3, .ref 1]) (h' := h) (fun _ => rfl) ?_
  refine rt_gf rfl c rfl rfl ?_
  refine rt_cvE rfl (by decide) p1 rfl rfl rfl rfl (tp_at3 P (i := p) (by omega)) ?_
  refine rt_cE rfl rfl (rd_mkb b1) ?_
  refine rt_pe rfl (fun z3 => ?_) (fun z3 => ?_)
  ·
    exact k h p fr_rf C hs hd (Or.inr (Or.inr (Bool.not_eq_true _ ▸ z3)))
  have nxt : ∀ x : Int32, x = tB (∀ i, s ≤ i → i < p + 1 → dg (T.getD i 0) = true) → rt_ X (d + 2) 38 72 [some (.ref 3), some (.int (nI s)), some (.int (tB (∀ i, s ≤ i → i < p → dg (T.getD i 0) = true)))] [.int x] h Q := fun x ex => by
    rw [ex]
    refine rt_k (k := 3) (pc' := 75) (L' := [some (.ref 3), some (.int (nI s)), some (.int (tB (∀ i, s ≤ i → i < p + 1 → dg (T.getD i 0) = true)))]) (st' := [.ref 3, .ref 3]) (h' := h) (fun _ => rfl) ?_
    refine rt_gf rfl c rfl rfl ?_
    refine rt_k (k := 1) (pc' := 79) (L' := [some (.ref 3), some (.int (nI s)), some (.int (tB (∀ i, s ≤ i → i < p + 1 → dg (T.getD i 0) = true)))]) (st' := [.int (nI 1), .int (nI p), .ref 3]) (h' := h) (fun _ => rfl) ?_
    refine rt_add rfl ?_
    refine rt_pf rfl c ⟨rfl, (show 3 < 4 by decide), rfl⟩ ?_
    have f_7 : fr_ (r3) h (h.set 3 (.inr (2, [.ref 1, .int (nI f), .int (nI b), .int (nI (p + 1))]))) := fr_set (e' := .inr (2, [.ref 1, .int (nI f), .int (nI b), .int (nI (p + 1))])) c (by rfl) (by first | decide | simp)
    have c_8 := hs_self (e' := .inr (2, [.ref 1, .int (nI f), .int (nI b), .int (nI (p + 1))])) c
    refine rt_k (k := 1) (pc' := 7) (L' := [some (.ref 3), some (.int (nI s)), some (.int (tB (∀ i, s ≤ i → i < p + 1 → dg (T.getD i 0) = true)))]) (st' := []) (h' := (h.set 3 (.inr (2, [.ref 1, .int (nI f), .int (nI b), .int (nI (p + 1))])))) (fun _ => rfl) ?_
    exact rd_tm1 (p + 1) _ ⟨tp_fr P f_7, c_8, h1, h2, by omega⟩ ⟨by omega, by omega, by omega⟩ (fun i a e => by
      by_cases q : i = p
      · subst q; exact z3
      · exact hd i a (by omega)) (fun h' p' f1 => k h' p' (fr_tr f_7 f1))
  refine rt_k (k := 1) (pc' := 47) (L' := [some (.ref 3), some (.int (nI s)), some (.int (tB (∀ i, s ≤ i → i < p → dg (T.getD i 0) = true)))]) (st' := [.int (tB (∀ i, s ≤ i → i < p → dg (T.getD i 0) = true))]) (h' := h) (fun _ => rfl) ?_
  refine rt_pe rfl (fun z4 => ?_) (fun z4 => ?_)
  ·
    refine rt_k (k := 1) (pc' := 72) (L' := [some (.ref 3), some (.int (nI s)), some (.int (tB (∀ i, s ≤ i → i < p → dg (T.getD i 0) = true)))]) (st' := [.int (nI 0)]) (h' := h) (fun _ => rfl) ?_
    exact nxt (nI 0) (tB_f (fun w => z4 (fun i a e => w i a (by omega)))).symm
  refine rt_k (k := 1) (pc' := 51) (L' := [some (.ref 3), some (.int (nI s)), some (.int (tB (∀ i, s ≤ i → i < p → dg (T.getD i 0) = true)))]) (st' := [.ref 3]) (h' := h) (fun _ => rfl) ?_
  refine rt_gf rfl c rfl rfl ?_
  refine rt_k (k := 1) (pc' := 55) (L' := [some (.ref 3), some (.int (nI s)), some (.int (tB (∀ i, s ≤ i → i < p → dg (T.getD i 0) = true)))]) (st' := [.ref 3, .ref 1]) (h' := h) (fun _ => rfl) ?_
  refine rt_gf rfl c rfl rfl ?_
  refine rt_cvE rfl (by decide) p1 rfl rfl rfl rfl (tp_at3 P (i := p) (by omega)) ?_
  refine rt_cE rfl rfl (rd_dig b1) ?_
  refine rt_pe rfl (fun z5 => ?_) (fun z5 => ?_)
  ·
    refine rt_k (k := 1) (pc' := 72) (L' := [some (.ref 3), some (.int (nI s)), some (.int (tB (∀ i, s ≤ i → i < p → dg (T.getD i 0) = true)))]) (st' := [.int (nI 0)]) (h' := h) (fun _ => rfl) ?_
    exact nxt (nI 0) (tB_f (fun w => z5 (w p hs.1 (Nat.lt_succ_self _)))).symm
  refine rt_k (k := 2) (pc' := 72) (L' := [some (.ref 3), some (.int (nI s)), some (.int (tB (∀ i, s ≤ i → i < p → dg (T.getD i 0) = true)))]) (st' := [.int (nI 1)]) (h' := h) (fun _ => rfl) ?_
  exact nxt (nI 1) (tB_t (fun i a e => by
    by_cases q : i = p
    · subst q; exact z5
    · exact z4 i a (by omega))).symm
termination_by b - p
theorem rd_takeMark (C : rC h T f b p) (hp : p ≤ b) : rt_ X (d + 2) 38 0 [some (.ref 3), none, none] [] h (fun v h' => fr_ r3 h h' ∧ ((∃ p', okM ((sl T p b).takeWhile mkb) = true ∧ (sl T p b).takeWhile mkb = sl T p p' ∧ (sl T p b).dropWhile mkb = sl T p' b ∧ v = some (.long (mkI (sl T p p'))) ∧ p ≤ p' ∧ p' ≤ b ∧ rC h' T f b p') ∨ (okM ((sl T p b).takeWhile mkb) = false ∧ v = some (.long (-1)) ∧ ∃ p', p' ≤ b ∧ rC h' T f b p'))) := by
  obtain ⟨P, c, h1, h2, h3⟩ := id C
  have hT := P.2.2.1
  refine rt_k (k := 1) (pc' := 1) (L' := [some (.ref 3), none, none]) (st' := [.ref 3]) (h' := h) (fun _ => rfl) ?_
  refine rt_gf rfl c rfl rfl ?_
  refine rt_k (k := 1) (pc' := 5) (L' := [some (.ref 3), some (.int (nI p)), none]) (st' := []) (h' := h) (fun _ => rfl) ?_
  have e0 : (nI 1 : Int32) = tB (∀ i, p ≤ i → i < p → dg (T.getD i 0) = true) := (tB_t (fun i a e => by omega)).symm
  refine rt_k (k := 2) (pc' := 7) (L' := [some (.ref 3), some (.int (nI p)), some (.int (tB (∀ i, p ≤ i → i < p → dg (T.getD i 0) = true)))]) (st' := []) (h' := h) (fun _ => by rw [← e0]; rfl) ?_
  refine rd_tm1 (s := p) p h C ⟨Nat.le_refl _, hp, by omega⟩ (fun i a e => by omega) (fun h' q f1 C1 hq hd hend => ?_)
  obtain ⟨P1, c1, -, -, hq3⟩ := id C1
  have hw := sl_while_n (P := mkb) h2 (q - p) p q rfl hq.1 hq.2.1 hd
  refine rt_k (k := 1) (pc' := 87) (L' := [some (.ref 3), some (.int (nI p)), some (.int (tB (∀ i, p ≤ i → i < q → dg (T.getD i 0) = true)))]) (st' := [.ref 3]) (h' := h') (fun _ => rfl) ?_
  refine rt_gf rfl c1 rfl rfl ?_
  refine rt_k (k := 1) (pc' := 91) (L' := [some (.ref 3), some (.int (nI p)), some (.int (tB (∀ i, p ≤ i → i < q → dg (T.getD i 0) = true)))]) (st' := [.int (nI p), .int (nI q)]) (h' := h') (fun _ => rfl) ?_
  refine rt_ieq rfl (by omega) (by omega) (fun z => ?_) (fun z => ?_)
  ·
    have hno : okM ((sl T p b).takeWhile mkb) = false := by
      have hend' : q = b ∨ mkb (T.getD q 0) = false := by
        rcases hend with e | e | e
        · exact Or.inl e
        · omega
        · exact Or.inr e
      obtain ⟨w1, -⟩ := sl_while h2 (q - p) p q rfl hq.1 hq.2.1 hd hend'
      rw [w1, sl_nil (by omega)]
      rfl
    refine rt_k (k := 1) (pc' := 108) (L' := [some (.ref 3), some (.int (nI p)), some (.int (tB (∀ i, p ≤ i → i < q → dg (T.getD i 0) = true)))]) (st' := [.long (-1)]) (h' := h') (fun _ => rfl) ?_
    exact rt_r (v := some (.long (-1))) rfl rfl (⟨f1, Or.inr ⟨hno, rfl, q, hq.2.1, C1⟩⟩)
  refine rt_k (k := 1) (pc' := 95) (L' := [some (.ref 3), some (.int (nI p)), some (.int (tB (∀ i, p ≤ i → i < q → dg (T.getD i 0) = true)))]) (st' := [.ref 3]) (h' := h') (fun _ => rfl) ?_
  refine rt_gf rfl c1 rfl rfl ?_
  refine rt_k (k := 1) (pc' := 99) (L' := [some (.ref 3), some (.int (nI p)), some (.int (tB (∀ i, p ≤ i → i < q → dg (T.getD i 0) = true)))]) (st' := [.int (nI p), .int (nI q)]) (h' := h') (fun _ => rfl) ?_
  refine rt_sub rfl (by omega) ?_
  refine rt_k (k := 1) (pc' := 102) (L' := [some (.ref 3), some (.int (nI p)), some (.int (tB (∀ i, p ≤ i → i < q → dg (T.getD i 0) = true)))]) (st' := [.int (nI 8), .int (nI (q - p))]) (h' := h') (fun _ => rfl) ?_
  refine rt_ile rfl (by omega) (by decide) (fun z2 => ?_) (fun z2 => ?_)
  rotate_left
  ·
    have hno : okM ((sl T p b).takeWhile mkb) = false := by
      rw [← Bool.not_eq_true]
      unfold okM
      simp only [Bool.and_eq_true, decide_eq_true_eq]
      omega
    refine rt_k (k := 1) (pc' := 108) (L' := [some (.ref 3), some (.int (nI p)), some (.int (tB (∀ i, p ≤ i → i < q → dg (T.getD i 0) = true)))]) (st' := [.long (-1)]) (h' := h') (fun _ => rfl) ?_
    exact rt_r (v := some (.long (-1))) rfl rfl (⟨f1, Or.inr ⟨hno, rfl, q, hq.2.1, C1⟩⟩)
  have hend' : q = b ∨ mkb (T.getD q 0) = false := by
    rcases hend with e | e | e
    · exact Or.inl e
    · omega
    · exact Or.inr e
  obtain ⟨w1, w2⟩ := sl_while h2 (q - p) p q rfl hq.1 hq.2.1 hd hend'
  have hl : (sl T p q).length = q - p := sl_len (by omega)
  have hall : (sl T p q).all dg = true ↔ ∀ i, p ≤ i → i < q → dg (T.getD i 0) = true := by
    rw [List.all_eq_true]
    constructor
    · intro w i a e
      have : T.getD i 0 ∈ sl T p q := by
        have g := sl_get (T := T) (p := p) (q := q) (i := i - p) (by omega)
        rw [show p + (i - p) = i by omega] at g
        rw [List.getD_eq_getElem?_getD, List.getElem?_eq_getElem (show i < T.length by omega)]
        rw [List.getElem?_eq_getElem (show i < T.length by omega)] at g
        exact List.mem_of_getElem? g
      exact w _ this
    · exact fun w => sl_allP (by omega) w
  refine rt_k (k := 1) (pc' := 110) (L' := [some (.ref 3), some (.int (nI p)), some (.int (tB (∀ i, p ≤ i → i < q → dg (T.getD i 0) = true)))]) (st' := [.int (tB (∀ i, p ≤ i → i < q → dg (T.getD i 0) = true))]) (h' := h') (fun _ => rfl) ?_
  refine rt_pe rfl (fun z3 => ?_) (fun z3 => ?_)
  ·
    have nall : ¬ (sl T p q).all dg = true := fun w => z3 (hall.mp w)
    have e1 : mkI (sl T p q) = nmI (sl T p q) := by unfold mkI; rw [if_neg nall]
    have hok : okM ((sl T p b).takeWhile mkb) = true := by
      rw [w1]; unfold okM; rw [hl]
      simp only [Bool.and_eq_true, decide_eq_true_eq, Bool.or_eq_true, Bool.not_eq_true']
      exact ⟨by omega, Or.inl (Bool.not_eq_true _ ▸ nall)⟩
    refine rt_k (k := 3) (pc' := 128) (L' := [some (.ref 3), some (.int (nI p)), some (.int (tB (∀ i, p ≤ i → i < q → dg (T.getD i 0) = true)))]) (st' := [.ref 3, .int (nI p), .ref 3]) (h' := h') (fun _ => rfl) ?_
    refine rt_gf rfl c1 rfl rfl ?_
    refine rt_cvE rfl (by decide) c1 rfl rfl rfl rfl (rd_packed C1 (s := p) (t := q) (by omega) (by omega)) ?_
    rw [← e1]
    exact rt_r (v := some (.long (mkI (sl T p q)))) rfl rfl ⟨f1, Or.inl ⟨q, hok, w1, w2, rfl, hq.1, hq.2.1, C1⟩⟩
  have yall : (sl T p q).all dg = true := hall.mpr z3
  refine rt_k (k := 3) (pc' := 116) (L' := [some (.ref 3), some (.int (nI p)), some (.int (tB (∀ i, p ≤ i → i < q → dg (T.getD i 0) = true)))]) (st' := [.ref 3, .int (nI p), .ref 3]) (h' := h') (fun _ => rfl) ?_
  refine rt_gf rfl c1 rfl rfl ?_
  refine rt_cvE rfl (by decide) c1 rfl rfl rfl rfl (rd_numAt (m := 8) C1 hq.1 (by omega) z2 z3) ?_
  by_cases ok : okN 8 (sl T p q) = true
  · have e1 : nmL 8 (sl T p q) = mkI (sl T p q) := by unfold nmL mkI; rw [if_pos ok, if_pos yall]
    have hok : okM ((sl T p b).takeWhile mkb) = true := by
      rw [w1]; unfold okM; rw [hl]
      simp only [Bool.and_eq_true, decide_eq_true_eq, Bool.or_eq_true, Bool.not_eq_true']
      exact ⟨by omega, Or.inr ok⟩
    rw [e1]
    refine rt_k (k := 1) (pc' := 134) (L' := [some (.ref 3), some (.int (nI p)), some (.int (tB (∀ i, p ≤ i → i < q → dg (T.getD i 0) = true)))]) (st' := [.long (mkI (sl T p q))]) (h' := h') (fun _ => rfl) ?_
    exact rt_r (v := some (.long (mkI (sl T p q)))) rfl rfl ⟨f1, Or.inl ⟨q, hok, w1, w2, rfl, hq.1, hq.2.1, C1⟩⟩
  · have e1 : nmL 8 (sl T p q) = -1 := by unfold nmL; rw [if_neg ok]
    have hno : okM ((sl T p b).takeWhile mkb) = false := by
      rw [w1, ← Bool.not_eq_true]; unfold okM
      simp only [Bool.and_eq_true, Bool.or_eq_true, Bool.not_eq_true']
      rintro ⟨-, w | w⟩
      · rw [yall] at w; cases w
      · exact ok w
    rw [e1]
    refine rt_k (k := 1) (pc' := 134) (L' := [some (.ref 3), some (.int (nI p)), some (.int (tB (∀ i, p ≤ i → i < q → dg (T.getD i 0) = true)))]) (st' := [.long (-1)]) (h' := h') (fun _ => rfl) ?_
    exact rt_r (v := some (.long (-1))) rfl rfl ⟨f1, Or.inr ⟨hno, rfl, q, hq.2.1, C1⟩⟩
end RF

