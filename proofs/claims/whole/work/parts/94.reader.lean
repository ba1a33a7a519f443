/-! THE READER: word by word. -/
def rC (h : List va_E) (T : List Nat) (f b p : Nat) : Prop := tp_ h 1 2 T ∧ h[3]? = some (.inr (2, [.ref 1, .int (nI f), .int (nI b), .int (nI p)])) ∧ f ≤ b ∧ b ≤ T.length ∧ p ≤ 1000
def rW (T : List Nat) (f b : Nat) (ws : List kW) : Prop := (ws = [] ∧ f = b ∧ b = T.length) ∨ ∃ ws', ws = sl T f b :: ws' ∧ f < b ∧ (∀ c ∈ sl T f b, ¬ c = 32) ∧ ws' = wl (T.drop b) ∧ (b = T.length ∨ T.getD b 0 = 32)
abbrev r3 : Nat → Prop := fun z => z = 3
theorem r3_zz : ∀ k, zz k → ¬ r3 k := by intro k q; unfold zz at q; omega
theorem wd_b_sp (T : List Nat) : ∀ (n i : Nat), i ≤ T.length → T.length - i < n → i ≤ wd_b T n i ∧ (∀ j, i ≤ j → j < wd_b T n i → T.getD j 0 = 32) ∧ (wd_b T n i = T.length ∨ ¬ T.getD (wd_b T n i) 0 = 32)
  | 0, _, _, h => absurd h (Nat.not_lt_zero _)
  | n + 1, i, hi, hn => by
    unfold wd_b
    split
    · next z =>
      obtain ⟨a, b, c⟩ := wd_b_sp T n (i + 1) (by omega) (by omega)
      refine ⟨by omega, fun j h1 h2 => ?_, c⟩
      by_cases e : j = i
      · subst e; exact z.2
      · exact b j (by omega) h2
    · next z =>
      refine ⟨Nat.le_refl _, fun j h1 h2 => by omega, ?_⟩
      by_cases e : i = T.length
      · exact Or.inl e
      · exact Or.inr (fun w => z ⟨by omega, w⟩)
theorem wd_w_sp (T : List Nat) : ∀ (n i : Nat), i ≤ T.length → T.length - i < n → i ≤ wd_w T n i ∧ (∀ j, i ≤ j → j < wd_w T n i → ¬ T.getD j 0 = 32) ∧ (wd_w T n i = T.length ∨ T.getD (wd_w T n i) 0 = 32)
  | 0, _, _, h => absurd h (Nat.not_lt_zero _)
  | n + 1, i, hi, hn => by
    unfold wd_w
    split
    · next z =>
      obtain ⟨a, b, c⟩ := wd_w_sp T n (i + 1) (by omega) (by omega)
      refine ⟨by omega, fun j h1 h2 => ?_, c⟩
      by_cases e : j = i
      · subst e; exact z.2
      · exact b j (by omega) h2
    · next z =>
      refine ⟨Nat.le_refl _, fun j h1 h2 => by omega, ?_⟩
      by_cases e : i = T.length
      · exact Or.inl e
      · exact Or.inr (Classical.byContradiction fun w => z ⟨by omega, w⟩)
theorem sl_all (T : List Nat) (p : Nat) : sl T p T.length = T.drop p := by
  unfold sl; rw [List.take_of_length_le (by rw [List.length_drop]; omega)]
theorem rW_next {T : List Nat} (hT : T.length ≤ 400) {b : Nat} (hb : b ≤ T.length) : wd_b T 401 b ≤ wd_w T 401 (wd_b T 401 b) ∧ wd_w T 401 (wd_b T 401 b) ≤ T.length ∧ rW T (wd_b T 401 b) (wd_w T 401 (wd_b T 401 b)) (wl (T.drop b)) := by
  have l1 := wd_b_le T 401 b hb
  obtain ⟨a1, a2, a3⟩ := wd_b_sp T 401 b hb (by omega)
  generalize wd_b T 401 b = f at *
  have l2 := wd_w_le T 401 f l1
  obtain ⟨b1, b2, b3⟩ := wd_w_sp T 401 f l1 (by omega)
  generalize wd_w T 401 f = g at *
  refine ⟨b1, l2, ?_⟩
  have e1 := sl_while (T := T) (P := fun c => decide (c = 32)) (Nat.le_refl _) _ b f rfl a1 l1 (fun i h1 h2 => decide_eq_true (a2 i h1 h2)) (a3.imp id (fun w => decide_eq_false w))
  have e2 := sl_while (T := T) (P := fun c => !decide (c = 32)) (Nat.le_refl _) _ f g rfl b1 l2 (fun i h1 h2 => by rw [decide_eq_false (b2 i h1 h2)]; rfl) (b3.imp id (fun w => by rw [decide_eq_true w]; rfl))
  rw [sl_all] at e1
  have e3 : (T.drop b).dropWhile (fun c => decide (c = 32)) = sl T f T.length := e1.2
  by_cases z : f = T.length
  · have : g = f := by omega
    subst this
    refine Or.inl ⟨?_, rfl, z⟩
    unfold wl wlF
    rw [e3, sl_nil (by omega)]
  · have hfg : f < g := by
      by_cases w : f = g
      · subst w
        rcases a3 with a3 | a3
        · exact absurd a3 z
        · rcases b3 with b3 | b3
          · exact absurd b3 z
          · exact absurd b3 a3
      · omega
    refine Or.inr ⟨wl (T.drop g), ?_, hfg, fun c hc => ?_, rfl, b3⟩
    · have hne : ∃ c cs, sl T f T.length = c :: cs := ⟨_, _, sl_cons (by omega) (Nat.le_refl _)⟩
      obtain ⟨c, cs, hcs⟩ := hne
      unfold wl
      rw [wlF, e3]
      rw [hcs] at e2 ⊢
      dsimp only
      rw [e2.1, e2.2, sl_all]
      congr 1
      refine wlF_mo _ _ _ ?_ (Nat.lt_succ_self _)
      rw [List.length_drop, List.length_drop]
      omega
    · obtain ⟨i, hi⟩ := gt_mem hc
      have hl := gt_lt hi
      rw [sl_len l2] at hl
      rw [sl_get (by omega)] at hi
      have := b2 (f + i) (by omega) (by omega)
      rw [List.getD_eq_getElem?_getD, hi] at this
      exact this
section RD
variable {X : Nat × (Nat → Int32)} {d : Nat} {h : List va_E} {Q : Option Value → List va_E → Prop} {T : List Nat} {f b p : Nat} {ws : List kW}
theorem tp_fr {h' : List va_E} (P : tp_ h 1 2 T) (F : fr_ r3 h h') : tp_ h' 1 2 T := by
  obtain ⟨p1, ⟨g, p2, p3⟩, p4, p5⟩ := P
  exact ⟨fr_at F (by decide) p1, ⟨g, fr_at F (by decide) p2, p3⟩, p4, p5⟩
theorem rd_nx (C : rC h T f b p) : rt_ X (d + 1) 21 0 [some (.ref 3)] [] h (fun v h' => v = none ∧ fr_ r3 h h' ∧ ∃ f' b', rC h' T f' b' p ∧ rW T f' b' (wl (T.drop b))) := by
  obtain ⟨P, c, h1, h2, h3⟩ := C
  refine rt_w (rd_next c P h2) ?_
  rintro v h' ⟨rfl, rfl⟩
  have hT := P.2.2.1
  obtain ⟨a1, a2, a3⟩ := rW_next hT h2
  have F : fr_ r3 h (h.set 3 (rd_c 1 (wd_b T 401 b) (wd_w T 401 (wd_b T 401 b)) (.int (nI p)))) := fr_set c rfl rfl
  exact ⟨rfl, F, _, _, ⟨tp_fr P F, hs_self c, a1, a2, h3⟩, a3⟩
theorem rd_op (C : rC h T f b p) : rt_ X (d + 2) 20 0 [some (.ref 3)] [] h (fun v h' => v = none ∧ fr_ r3 h h' ∧ ∃ f' b', rC h' T f' b' p ∧ rW T f' b' (wl T)) := by
  obtain ⟨P, c, h1, h2, h3⟩ := C
  refine rt_k (k := 2) (pc' := 2) (L' := [some (.ref 3)]) (st' := [.int (nI 0), .ref 3]) (h' := h) (fun _ => rfl) ?_
  refine rt_pf rfl c ⟨rfl, (show 2 < 4 by decide), rfl⟩ ?_
  have f_1 : fr_ (r3) h (h.set 3 (.inr (2, [.ref 1, .int (nI f), .int (nI 0), .int (nI p)]))) := fr_set (e' := .inr (2, [.ref 1, .int (nI f), .int (nI 0), .int (nI p)])) c (by rfl) (by first | decide | simp)
  have c_2 := hs_self (e' := .inr (2, [.ref 1, .int (nI f), .int (nI 0), .int (nI p)])) c
  refine rt_k (k := 1) (pc' := 6) (L' := [some (.ref 3)]) (st' := [.ref 3]) (h' := (h.set 3 (.inr (2, [.ref 1, .int (nI f), .int (nI 0), .int (nI p)])))) (fun _ => rfl) ?_
  have F0 := f_1
  have P0 := tp_fr P F0
  have c0 := c_2
  have hT := P.2.2.1
  obtain ⟨a1, a2, a3⟩ := rW_next (b := 0) hT (Nat.zero_le _)
  refine rt_cv rfl (by decide) c0 rfl rfl rfl rfl (rd_next c0 P0 (Nat.zero_le _)) ?_
  rintro v h' ⟨rfl, rfl⟩
  refine rt_r (v := none) rfl rfl ⟨rfl, fr_tr F0 (fr_set c0 rfl rfl), _, _, ⟨tp_fr P0 (fr_set c0 rfl rfl), hs_self c0, a1, a2, h3⟩, a3⟩
theorem rd_end (C : rC h T f b p) (W : rW T f b ws) : rt_ X d 42 0 [some (.ref 3)] [] h (fun v h' => v = some (.int (tB (ws = []))) ∧ h' = h) := by
  obtain ⟨P, c, h1, h2, h3⟩ := C
  have hT := P.2.2.1
  have e : ws = [] ↔ f = b := by
    rcases W with ⟨a, b, -⟩ | ⟨ws', a, b, -⟩
    · exact ⟨fun _ => b, fun _ => a⟩
    · exact ⟨fun w => (by rw [a] at w; cases w), fun w => (by omega)⟩
  refine rt_k (k := 1) (pc' := 1) (L' := [some (.ref 3)]) (st' := [.ref 3]) (h' := h) (fun _ => rfl) ?_
  refine rt_gf rfl c rfl rfl ?_
  refine rt_k (k := 1) (pc' := 5) (L' := [some (.ref 3)]) (st' := [.ref 3, .int (nI f)]) (h' := h) (fun _ => rfl) ?_
  refine rt_gf rfl c rfl rfl ?_
  refine rt_ine rfl (by omega) (by omega) (fun z => ?_) (fun z => ?_)
  ·
    refine rt_k (k := 1) (pc' := 16) (L' := [some (.ref 3)]) (st' := [.int (nI 0)]) (h' := h) (fun _ => rfl) ?_
    exact rt_r (v := some (.int (nI 0))) rfl rfl (⟨ret0 (fun w => z (e.mp w)), rfl⟩)
  refine rt_k (k := 2) (pc' := 16) (L' := [some (.ref 3)]) (st' := [.int (nI 1)]) (h' := h) (fun _ => rfl) ?_
  exact rt_r (v := some (.int (nI 1))) rfl rfl (⟨ret1 (e.mpr z), rfl⟩)
theorem tp_at3 (P : tp_ h 1 2 T) {i : Nat} (hi : i < T.length) : rt_ X d 22 0 [some (.ref 1), some (.int (nI i))] [] h (fun v h' => v = some (.int (nI (T.getD i 0))) ∧ h' = h) := by
  have q := tp_at (X := X) (d := d) P (nI i)
  rw [tp_cN hi P.2.2.1] at q
  exact q
theorem tp_lt (P : tp_ h 1 2 T) (i : Nat) : T.getD i 0 < 256 := by
  rw [List.getD_eq_getElem?_getD]
  by_cases q : i < T.length
  · rw [List.getElem?_eq_getElem q]; exact P.2.2.2 _ (List.getElem_mem q)
  · rw [List.getElem?_eq_none (by omega)]; decide
theorem rd_wi0a (C : rC h T f b p) (hl : b - f = 5) (i : Nat) (hi : i ≤ 5) (H : ∀ j, j < i → T.getD (f + j) 0 = (tx 0).getD j 0) : rt_ X (d + 4) 27 20 [some (.ref 3), some (.retAddr 0), some (.int (nI i))] [] h (fun v h' => v = some (.int (tB (sl T f b = tx 0))) ∧ h' = h) := by
  obtain ⟨P, c, h1, h2, h3⟩ := id C
  have hT := P.2.2.1
  have p1 := P.1
  have hx : ∀ j, (tx 0).getD j 0 < 256 := fun j => by
    by_cases q : j < 5
    · have : ∀ z : Fin 5, (tx 0).getD z.1 0 < 256 := by decide
      exact this ⟨j, q⟩
    · rw [List.getD_eq_getElem?_getD, List.getElem?_eq_none (by show 5 ≤ j; omega)]; decide
  refine rt_k (k := 2) (pc' := 22) (L' := [some (.ref 3), some (.retAddr 0), some (.int (nI i))]) (st' := [.retAddr 0, .int (nI i)]) (h' := h) (fun _ => rfl) ?_
  refine rt_cE rfl rfl cst_len0 ?_
  refine rt_ige rfl (by omega) (by decide) (fun z => ?_) (fun z => ?_)
  ·
    have e : i = 5 := by omega
    have es : sl T f b = tx 0 := by
      apply List.ext_getElem?
      intro j
      by_cases q : j < 5
      · rw [sl_get (by omega)]
        have hj := H j (by omega)
        rw [List.getD_eq_getElem?_getD, List.getD_eq_getElem?_getD] at hj
        have q1 : f + j < T.length := by omega
        have q2 : j < (tx 0).length := q
        rw [List.getElem?_eq_getElem q1, List.getElem?_eq_getElem q2] at hj ⊢
        exact congrArg some hj
      · rw [List.getElem?_eq_none (by rw [sl_len h2]; omega), List.getElem?_eq_none (by show 5 ≤ j; omega)]
    refine rt_k (k := 1) (pc' := 58) (L' := [some (.ref 3), some (.retAddr 0), some (.int (nI i))]) (st' := [.int (nI 1)]) (h' := h) (fun _ => rfl) ?_
    exact rt_r (v := some (.int (nI 1))) rfl rfl (⟨ret1 es, rfl⟩)
  have b1 := tp_lt P (f + i)
  have b2 := hx i
  refine rt_k (k := 1) (pc' := 29) (L' := [some (.ref 3), some (.retAddr 0), some (.int (nI i))]) (st' := [.ref 3]) (h' := h) (fun _ => rfl) ?_
  refine rt_gf rfl c rfl rfl ?_
  refine rt_k (k := 1) (pc' := 33) (L' := [some (.ref 3), some (.retAddr 0), some (.int (nI i))]) (st' := [.ref 3, .ref 1]) (h' := h) (fun _ => rfl) ?_
  refine rt_gf rfl c rfl rfl ?_
  refine rt_k (k := 1) (pc' := 37) (L' := [some (.ref 3), some (.retAddr 0), some (.int (nI i))]) (st' := [.int (nI i), .int (nI f), .ref 1]) (h' := h) (fun _ => rfl) ?_
  refine rt_add rfl ?_
  refine rt_cvE rfl (by decide) p1 rfl rfl rfl rfl (tp_at3 P (i := f + i) (by omega)) ?_
  refine rt_k (k := 2) (pc' := 43) (L' := [some (.ref 3), some (.retAddr 0), some (.int (nI i))]) (st' := [.int (nI i), .retAddr 0, .int (nI (T.getD (f + i) 0))]) (h' := h) (fun _ => rfl) ?_
  refine rt_cE rfl rfl (cst_char0 z) ?_
  refine rt_ieq rfl (by omega) (by omega) (fun z2 => ?_) (fun z2 => ?_)
  rotate_left
  ·
    refine rt_k (k := 1) (pc' := 50) (L' := [some (.ref 3), some (.retAddr 0), some (.int (nI i))]) (st' := [.int (nI 0)]) (h' := h) (fun _ => rfl) ?_
    exact rt_r (v := some (.int (nI 0))) rfl rfl (⟨ret0 (fun w => z2 (by rw [← w, sl_getD (by omega)])), rfl⟩)
  refine rt_inc (c := 1) rfl rfl ?_
  refine rt_k (k := 1) (pc' := 20) (L' := [some (.ref 3), some (.retAddr 0), some (.int (nI (i + 1)))]) (st' := []) (h' := h) (fun _ => rfl) ?_
  exact rd_wi0a C hl (i + 1) z (fun j hj => by
    by_cases q : j = i
    · subst q; exact z2
    · exact H j (by omega))
termination_by 5 - i
theorem rd_wi0 (C : rC h T f b p) : rt_ X (d + 4) 27 0 [some (.ref 3), some (.retAddr 0), none] [] h (fun v h' => v = some (.int (tB (sl T f b = tx 0))) ∧ h' = h) := by
  obtain ⟨P, c, h1, h2, h3⟩ := id C
  have hT := P.2.2.1
  refine rt_k (k := 1) (pc' := 1) (L' := [some (.ref 3), some (.retAddr 0), none]) (st' := [.ref 3]) (h' := h) (fun _ => rfl) ?_
  refine rt_gf rfl c rfl rfl ?_
  refine rt_k (k := 1) (pc' := 5) (L' := [some (.ref 3), some (.retAddr 0), none]) (st' := [.ref 3, .int (nI b)]) (h' := h) (fun _ => rfl) ?_
  refine rt_gf rfl c rfl rfl ?_
  refine rt_sub rfl (by omega) ?_
  refine rt_k (k := 1) (pc' := 10) (L' := [some (.ref 3), some (.retAddr 0), none]) (st' := [.retAddr 0, .int (nI (b - f))]) (h' := h) (fun _ => rfl) ?_
  refine rt_cE rfl rfl cst_len0 ?_
  refine rt_ieq rfl (by omega) (by decide) (fun z => ?_) (fun z => ?_)
  rotate_left
  ·
    refine rt_k (k := 1) (pc' := 17) (L' := [some (.ref 3), some (.retAddr 0), none]) (st' := [.int (nI 0)]) (h' := h) (fun _ => rfl) ?_
    exact rt_r (v := some (.int (nI 0))) rfl rfl (⟨ret0 (fun w => z (by have := congrArg List.length w; rw [sl_len h2] at this; exact this)), rfl⟩)
  refine rt_k (k := 2) (pc' := 20) (L' := [some (.ref 3), some (.retAddr 0), some (.int (nI 0))]) (st' := []) (h' := h) (fun _ => rfl) ?_
  exact rd_wi0a C z 0 (Nat.zero_le _) (fun j hj => absurd hj (Nat.not_lt_zero _))
theorem rd_wi1a (C : rC h T f b p) (hl : b - f = 6) (i : Nat) (hi : i ≤ 6) (H : ∀ j, j < i → T.getD (f + j) 0 = (tx 1).getD j 0) : rt_ X (d + 4) 27 20 [some (.ref 3), some (.retAddr 1), some (.int (nI i))] [] h (fun v h' => v = some (.int (tB (sl T f b = tx 1))) ∧ h' = h) := by
  obtain ⟨P, c, h1, h2, h3⟩ := id C
  have hT := P.2.2.1
  have p1 := P.1
  have hx : ∀ j, (tx 1).getD j 0 < 256 := fun j => by
    by_cases q : j < 6
    · have : ∀ z : Fin 6, (tx 1).getD z.1 0 < 256 := by decide
      exact this ⟨j, q⟩
    · rw [List.getD_eq_getElem?_getD, List.getElem?_eq_none (by show 6 ≤ j; omega)]; decide
  refine rt_k (k := 2) (pc' := 22) (L' := [some (.ref 3), some (.retAddr 1), some (.int (nI i))]) (st' := [.retAddr 1, .int (nI i)]) (h' := h) (fun _ => rfl) ?_
  refine rt_cE rfl rfl cst_len1 ?_
  refine rt_ige rfl (by omega) (by decide) (fun z => ?_) (fun z => ?_)
  ·
    have e : i = 6 := by omega
    have es : sl T f b = tx 1 := by
      apply List.ext_getElem?
      intro j
      by_cases q : j < 6
      · rw [sl_get (by omega)]
        have hj := H j (by omega)
        rw [List.getD_eq_getElem?_getD, List.getD_eq_getElem?_getD] at hj
        have q1 : f + j < T.length := by omega
        have q2 : j < (tx 1).length := q
        rw [List.getElem?_eq_getElem q1, List.getElem?_eq_getElem q2] at hj ⊢
        exact congrArg some hj
      · rw [List.getElem?_eq_none (by rw [sl_len h2]; omega), List.getElem?_eq_none (by show 6 ≤ j; omega)]
    refine rt_k (k := 1) (pc' := 58) (L' := [some (.ref 3), some (.retAddr 1), some (.int (nI i))]) (st' := [.int (nI 1)]) (h' := h) (fun _ => rfl) ?_
    exact rt_r (v := some (.int (nI 1))) rfl rfl (⟨ret1 es, rfl⟩)
  have b1 := tp_lt P (f + i)
  have b2 := hx i
  refine rt_k (k := 1) (pc' := 29) (L' := [some (.ref 3), some (.retAddr 1), some (.int (nI i))]) (st' := [.ref 3]) (h' := h) (fun _ => rfl) ?_
  refine rt_gf rfl c rfl rfl ?_
  refine rt_k (k := 1) (pc' := 33) (L' := [some (.ref 3), some (.retAddr 1), some (.int (nI i))]) (st' := [.ref 3, .ref 1]) (h' := h) (fun _ => rfl) ?_
  refine rt_gf rfl c rfl rfl ?_
  refine rt_k (k := 1) (pc' := 37) (L' := [some (.ref 3), some (.retAddr 1), some (.int (nI i))]) (st' := [.int (nI i), .int (nI f), .ref 1]) (h' := h) (fun _ => rfl) ?_
  refine rt_add rfl ?_
  refine rt_cvE rfl (by decide) p1 rfl rfl rfl rfl (tp_at3 P (i := f + i) (by omega)) ?_
  refine rt_k (k := 2) (pc' := 43) (L' := [some (.ref 3), some (.retAddr 1), some (.int (nI i))]) (st' := [.int (nI i), .retAddr 1, .int (nI (T.getD (f + i) 0))]) (h' := h) (fun _ => rfl) ?_
  refine rt_cE rfl rfl (cst_char1 z) ?_
  refine rt_ieq rfl (by omega) (by omega) (fun z2 => ?_) (fun z2 => ?_)
  rotate_left
  ·
    refine rt_k (k := 1) (pc' := 50) (L' := [some (.ref 3), some (.retAddr 1), some (.int (nI i))]) (st' := [.int (nI 0)]) (h' := h) (fun _ => rfl) ?_
    exact rt_r (v := some (.int (nI 0))) rfl rfl (⟨ret0 (fun w => z2 (by rw [← w, sl_getD (by omega)])), rfl⟩)
  refine rt_inc (c := 1) rfl rfl ?_
  refine rt_k (k := 1) (pc' := 20) (L' := [some (.ref 3), some (.retAddr 1), some (.int (nI (i + 1)))]) (st' := []) (h' := h) (fun _ => rfl) ?_
  exact rd_wi1a C hl (i + 1) z (fun j hj => by
    by_cases q : j = i
    · subst q; exact z2
    · exact H j (by omega))
termination_by 6 - i
theorem rd_wi1 (C : rC h T f b p) : rt_ X (d + 4) 27 0 [some (.ref 3), some (.retAddr 1), none] [] h (fun v h' => v = some (.int (tB (sl T f b = tx 1))) ∧ h' = h) := by
  obtain ⟨P, c, h1, h2, h3⟩ := id C
  have hT := P.2.2.1
  refine rt_k (k := 1) (pc' := 1) (L' := [some (.ref 3), some (.retAddr 1), none]) (st' := [.ref 3]) (h' := h) (fun _ => rfl) ?_
  refine rt_gf rfl c rfl rfl ?_
  refine rt_k (k := 1) (pc' := 5) (L' := [some (.ref 3), some (.retAddr 1), none]) (st' := [.ref 3, .int (nI b)]) (h' := h) (fun _ => rfl) ?_
  refine rt_gf rfl c rfl rfl ?_
  refine rt_sub rfl (by omega) ?_
  refine rt_k (k := 1) (pc' := 10) (L' := [some (.ref 3), some (.retAddr 1), none]) (st' := [.retAddr 1, .int (nI (b - f))]) (h' := h) (fun _ => rfl) ?_
  refine rt_cE rfl rfl cst_len1 ?_
  refine rt_ieq rfl (by omega) (by decide) (fun z => ?_) (fun z => ?_)
  rotate_left
  ·
    refine rt_k (k := 1) (pc' := 17) (L' := [some (.ref 3), some (.retAddr 1), none]) (st' := [.int (nI 0)]) (h' := h) (fun _ => rfl) ?_
    exact rt_r (v := some (.int (nI 0))) rfl rfl (⟨ret0 (fun w => z (by have := congrArg List.length w; rw [sl_len h2] at this; exact this)), rfl⟩)
  refine rt_k (k := 2) (pc' := 20) (L' := [some (.ref 3), some (.retAddr 1), some (.int (nI 0))]) (st' := []) (h' := h) (fun _ => rfl) ?_
  exact rd_wi1a C z 0 (Nat.zero_le _) (fun j hj => absurd hj (Nat.not_lt_zero _))
theorem rd_wi2a (C : rC h T f b p) (hl : b - f = 4) (i : Nat) (hi : i ≤ 4) (H : ∀ j, j < i → T.getD (f + j) 0 = (tx 2).getD j 0) : rt_ X (d + 4) 27 20 [some (.ref 3), some (.retAddr 2), some (.int (nI i))] [] h (fun v h' => v = some (.int (tB (sl T f b = tx 2))) ∧ h' = h) := by
  obtain ⟨P, c, h1, h2, h3⟩ := id C
  have hT := P.2.2.1
  have p1 := P.1
  have hx : ∀ j, (tx 2).getD j 0 < 256 := fun j => by
    by_cases q : j < 4
    · have : ∀ z : Fin 4, (tx 2).getD z.1 0 < 256 := by decide
      exact this ⟨j, q⟩
    · rw [List.getD_eq_getElem?_getD, List.getElem?_eq_none (by show 4 ≤ j; omega)]; decide
  refine rt_k (k := 2) (pc' := 22) (L' := [some (.ref 3), some (.retAddr 2), some (.int (nI i))]) (st' := [.retAddr 2, .int (nI i)]) (h' := h) (fun _ => rfl) ?_
  refine rt_cE rfl rfl cst_len2 ?_
  refine rt_ige rfl (by omega) (by decide) (fun z => ?_) (fun z => ?_)
  ·
    have e : i = 4 := by omega
    have es : sl T f b = tx 2 := by
      apply List.ext_getElem?
      intro j
      by_cases q : j < 4
      · rw [sl_get (by omega)]
        have hj := H j (by omega)
        rw [List.getD_eq_getElem?_getD, List.getD_eq_getElem?_getD] at hj
        have q1 : f + j < T.length := by omega
        have q2 : j < (tx 2).length := q
        rw [List.getElem?_eq_getElem q1, List.getElem?_eq_getElem q2] at hj ⊢
        exact congrArg some hj
      · rw [List.getElem?_eq_none (by rw [sl_len h2]; omega), List.getElem?_eq_none (by show 4 ≤ j; omega)]
    refine rt_k (k := 1) (pc' := 58) (L' := [some (.ref 3), some (.retAddr 2), some (.int (nI i))]) (st' := [.int (nI 1)]) (h' := h) (fun _ => rfl) ?_
    exact rt_r (v := some (.int (nI 1))) rfl rfl (⟨ret1 es, rfl⟩)
  have b1 := tp_lt P (f + i)
  have b2 := hx i
  refine rt_k (k := 1) (pc' := 29) (L' := [some (.ref 3), some (.retAddr 2), some (.int (nI i))]) (st' := [.ref 3]) (h' := h) (fun _ => rfl) ?_
  refine rt_gf rfl c rfl rfl ?_
  refine rt_k (k := 1) (pc' := 33) (L' := [some (.ref 3), some (.retAddr 2), some (.int (nI i))]) (st' := [.ref 3, .ref 1]) (h' := h) (fun _ => rfl) ?_
  refine rt_gf rfl c rfl rfl ?_
  refine rt_k (k := 1) (pc' := 37) (L' := [some (.ref 3), some (.retAddr 2), some (.int (nI i))]) (st' := [.int (nI i), .int (nI f), .ref 1]) (h' := h) (fun _ => rfl) ?_
  refine rt_add rfl ?_
  refine rt_cvE rfl (by decide) p1 rfl rfl rfl rfl (tp_at3 P (i := f + i) (by omega)) ?_
  refine rt_k (k := 2) (pc' := 43) (L' := [some (.ref 3), some (.retAddr 2), some (.int (nI i))]) (st' := [.int (nI i), .retAddr 2, .int (nI (T.getD (f + i) 0))]) (h' := h) (fun _ => rfl) ?_
  refine rt_cE rfl rfl (cst_char2 z) ?_
  refine rt_ieq rfl (by omega) (by omega) (fun z2 => ?_) (fun z2 => ?_)
  rotate_left
  ·
    refine rt_k (k := 1) (pc' := 50) (L' := [some (.ref 3), some (.retAddr 2), some (.int (nI i))]) (st' := [.int (nI 0)]) (h' := h) (fun _ => rfl) ?_
    exact rt_r (v := some (.int (nI 0))) rfl rfl (⟨ret0 (fun w => z2 (by rw [← w, sl_getD (by omega)])), rfl⟩)
  refine rt_inc (c := 1) rfl rfl ?_
  refine rt_k (k := 1) (pc' := 20) (L' := [some (.ref 3), some (.retAddr 2), some (.int (nI (i + 1)))]) (st' := []) (h' := h) (fun _ => rfl) ?_
  exact rd_wi2a C hl (i + 1) z (fun j hj => by
    by_cases q : j = i
    · subst q; exact z2
    · exact H j (by omega))
termination_by 4 - i
theorem rd_wi2 (C : rC h T f b p) : rt_ X (d + 4) 27 0 [some (.ref 3), some (.retAddr 2), none] [] h (fun v h' => v = some (.int (tB (sl T f b = tx 2))) ∧ h' = h) := by
  obtain ⟨P, c, h1, h2, h3⟩ := id C
  have hT := P.2.2.1
  refine rt_k (k := 1) (pc' := 1) (L' := [some (.ref 3), some (.retAddr 2), none]) (st' := [.ref 3]) (h' := h) (fun _ => rfl) ?_
  refine rt_gf rfl c rfl rfl ?_
  refine rt_k (k := 1) (pc' := 5) (L' := [some (.ref 3), some (.retAddr 2), none]) (st' := [.ref 3, .int (nI b)]) (h' := h) (fun _ => rfl) ?_
  refine rt_gf rfl c rfl rfl ?_
  refine rt_sub rfl (by omega) ?_
  refine rt_k (k := 1) (pc' := 10) (L' := [some (.ref 3), some (.retAddr 2), none]) (st' := [.retAddr 2, .int (nI (b - f))]) (h' := h) (fun _ => rfl) ?_
  refine rt_cE rfl rfl cst_len2 ?_
  refine rt_ieq rfl (by omega) (by decide) (fun z => ?_) (fun z => ?_)
  rotate_left
  ·
    refine rt_k (k := 1) (pc' := 17) (L' := [some (.ref 3), some (.retAddr 2), none]) (st' := [.int (nI 0)]) (h' := h) (fun _ => rfl) ?_
    exact rt_r (v := some (.int (nI 0))) rfl rfl (⟨ret0 (fun w => z (by have := congrArg List.length w; rw [sl_len h2] at this; exact this)), rfl⟩)
  refine rt_k (k := 2) (pc' := 20) (L' := [some (.ref 3), some (.retAddr 2), some (.int (nI 0))]) (st' := []) (h' := h) (fun _ => rfl) ?_
  exact rd_wi2a C z 0 (Nat.zero_le _) (fun j hj => absurd hj (Nat.not_lt_zero _))
theorem rd_wi3a (C : rC h T f b p) (hl : b - f = 1) (i : Nat) (hi : i ≤ 1) (H : ∀ j, j < i → T.getD (f + j) 0 = (tx 3).getD j 0) : rt_ X (d + 4) 27 20 [some (.ref 3), some (.retAddr 3), some (.int (nI i))] [] h (fun v h' => v = some (.int (tB (sl T f b = tx 3))) ∧ h' = h) := by
  obtain ⟨P, c, h1, h2, h3⟩ := id C
  have hT := P.2.2.1
  have p1 := P.1
  have hx : ∀ j, (tx 3).getD j 0 < 256 := fun j => by
    by_cases q : j < 1
    · have : ∀ z : Fin 1, (tx 3).getD z.1 0 < 256 := by decide
      exact this ⟨j, q⟩
    · rw [List.getD_eq_getElem?_getD, List.getElem?_eq_none (by show 1 ≤ j; omega)]; decide
  refine rt_k (k := 2) (pc' := 22) (L' := [some (.ref 3), some (.retAddr 3), some (.int (nI i))]) (st' := [.retAddr 3, .int (nI i)]) (h' := h) (fun _ => rfl) ?_
  refine rt_cE rfl rfl cst_len3 ?_
  refine rt_ige rfl (by omega) (by decide) (fun z => ?_) (fun z => ?_)
  ·
    have e : i = 1 := by omega
    have es : sl T f b = tx 3 := by
      apply List.ext_getElem?
      intro j
      by_cases q : j < 1
      · rw [sl_get (by omega)]
        have hj := H j (by omega)
        rw [List.getD_eq_getElem?_getD, List.getD_eq_getElem?_getD] at hj
        have q1 : f + j < T.length := by omega
        have q2 : j < (tx 3).length := q
        rw [List.getElem?_eq_getElem q1, List.getElem?_eq_getElem q2] at hj ⊢
        exact congrArg some hj
      · rw [List.getElem?_eq_none (by rw [sl_len h2]; omega), List.getElem?_eq_none (by show 1 ≤ j; omega)]
    refine rt_k (k := 1) (pc' := 58) (L' := [some (.ref 3), some (.retAddr 3), some (.int (nI i))]) (st' := [.int (nI 1)]) (h' := h) (fun _ => rfl) ?_
    exact rt_r (v := some (.int (nI 1))) rfl rfl (⟨ret1 es, rfl⟩)
  have b1 := tp_lt P (f + i)
  have b2 := hx i
  refine rt_k (k := 1) (pc' := 29) (L' := [some (.ref 3), some (.retAddr 3), some (.int (nI i))]) (st' := [.ref 3]) (h' := h) (fun _ => rfl) ?_
  refine rt_gf rfl c rfl rfl ?_
  refine rt_k (k := 1) (pc' := 33) (L' := [some (.ref 3), some (.retAddr 3), some (.int (nI i))]) (st' := [.ref 3, .ref 1]) (h' := h) (fun _ => rfl) ?_
  refine rt_gf rfl c rfl rfl ?_
  refine rt_k (k := 1) (pc' := 37) (L' := [some (.ref 3), some (.retAddr 3), some (.int (nI i))]) (st' := [.int (nI i), .int (nI f), .ref 1]) (h' := h) (fun _ => rfl) ?_
  refine rt_add rfl ?_
  refine rt_cvE rfl (by decide) p1 rfl rfl rfl rfl (tp_at3 P (i := f + i) (by omega)) ?_
  refine rt_k (k := 2) (pc' := 43) (L' := [some (.ref 3), some (.retAddr 3), some (.int (nI i))]) (st' := [.int (nI i), .retAddr 3, .int (nI (T.getD (f + i) 0))]) (h' := h) (fun _ => rfl) ?_
  refine rt_cE rfl rfl (cst_char3 z) ?_
  refine rt_ieq rfl (by omega) (by omega) (fun z2 => ?_) (fun z2 => ?_)
  rotate_left
  ·
    refine rt_k (k := 1) (pc' := 50) (L' := [some (.ref 3), some (.retAddr 3), some (.int (nI i))]) (st' := [.int (nI 0)]) (h' := h) (fun _ => rfl) ?_
    exact rt_r (v := some (.int (nI 0))) rfl rfl (⟨ret0 (fun w => z2 (by rw [← w, sl_getD (by omega)])), rfl⟩)
  refine rt_inc (c := 1) rfl rfl ?_
  refine rt_k (k := 1) (pc' := 20) (L' := [some (.ref 3), some (.retAddr 3), some (.int (nI (i + 1)))]) (st' := []) (h' := h) (fun _ => rfl) ?_
  exact rd_wi3a C hl (i + 1) z (fun j hj => by
    by_cases q : j = i
    · subst q; exact z2
    · exact H j (by omega))
termination_by 1 - i
theorem rd_wi3 (C : rC h T f b p) : rt_ X (d + 4) 27 0 [some (.ref 3), some (.retAddr 3), none] [] h (fun v h' => v = some (.int (tB (sl T f b = tx 3))) ∧ h' = h) := by
  obtain ⟨P, c, h1, h2, h3⟩ := id C
  have hT := P.2.2.1
  refine rt_k (k := 1) (pc' := 1) (L' := [some (.ref 3), some (.retAddr 3), none]) (st' := [.ref 3]) (h' := h) (fun _ => rfl) ?_
  refine rt_gf rfl c rfl rfl ?_
  refine rt_k (k := 1) (pc' := 5) (L' := [some (.ref 3), some (.retAddr 3), none]) (st' := [.ref 3, .int (nI b)]) (h' := h) (fun _ => rfl) ?_
  refine rt_gf rfl c rfl rfl ?_
  refine rt_sub rfl (by omega) ?_
  refine rt_k (k := 1) (pc' := 10) (L' := [some (.ref 3), some (.retAddr 3), none]) (st' := [.retAddr 3, .int (nI (b - f))]) (h' := h) (fun _ => rfl) ?_
  refine rt_cE rfl rfl cst_len3 ?_
  refine rt_ieq rfl (by omega) (by decide) (fun z => ?_) (fun z => ?_)
  rotate_left
  ·
    refine rt_k (k := 1) (pc' := 17) (L' := [some (.ref 3), some (.retAddr 3), none]) (st' := [.int (nI 0)]) (h' := h) (fun _ => rfl) ?_
    exact rt_r (v := some (.int (nI 0))) rfl rfl (⟨ret0 (fun w => z (by have := congrArg List.length w; rw [sl_len h2] at this; exact this)), rfl⟩)
  refine rt_k (k := 2) (pc' := 20) (L' := [some (.ref 3), some (.retAddr 3), some (.int (nI 0))]) (st' := []) (h' := h) (fun _ => rfl) ?_
  exact rd_wi3a C z 0 (Nat.zero_le _) (fun j hj => absurd hj (Nat.not_lt_zero _))
theorem rd_wi4a (C : rC h T f b p) (hl : b - f = 2) (i : Nat) (hi : i ≤ 2) (H : ∀ j, j < i → T.getD (f + j) 0 = (tx 4).getD j 0) : rt_ X (d + 4) 27 20 [some (.ref 3), some (.retAddr 4), some (.int (nI i))] [] h (fun v h' => v = some (.int (tB (sl T f b = tx 4))) ∧ h' = h) := by
  obtain ⟨P, c, h1, h2, h3⟩ := id C
  have hT := P.2.2.1
  have p1 := P.1
  have hx : ∀ j, (tx 4).getD j 0 < 256 := fun j => by
    by_cases q : j < 2
    · have : ∀ z : Fin 2, (tx 4).getD z.1 0 < 256 := by decide
      exact this ⟨j, q⟩
    · rw [List.getD_eq_getElem?_getD, List.getElem?_eq_none (by show 2 ≤ j; omega)]; decide
  refine rt_k (k := 2) (pc' := 22) (L' := [some (.ref 3), some (.retAddr 4), some (.int (nI i))]) (st' := [.retAddr 4, .int (nI i)]) (h' := h) (fun _ => rfl) ?_
  refine rt_cE rfl rfl cst_len4 ?_
  refine rt_ige rfl (by omega) (by decide) (fun z => ?_) (fun z => ?_)
  ·
    have e : i = 2 := by omega
    have es : sl T f b = tx 4 := by
      apply List.ext_getElem?
      intro j
      by_cases q : j < 2
      · rw [sl_get (by omega)]
        have hj := H j (by omega)
        rw [List.getD_eq_getElem?_getD, List.getD_eq_getElem?_getD] at hj
        have q1 : f + j < T.length := by omega
        have q2 : j < (tx 4).length := q
        rw [List.getElem?_eq_getElem q1, List.getElem?_eq_getElem q2] at hj ⊢
        exact congrArg some hj
      · rw [List.getElem?_eq_none (by rw [sl_len h2]; omega), List.getElem?_eq_none (by show 2 ≤ j; omega)]
    refine rt_k (k := 1) (pc' := 58) (L' := [some (.ref 3), some (.retAddr 4), some (.int (nI i))]) (st' := [.int (nI 1)]) (h' := h) (fun _ => rfl) ?_
    exact rt_r (v := some (.int (nI 1))) rfl rfl (⟨ret1 es, rfl⟩)
  have b1 := tp_lt P (f + i)
  have b2 := hx i
  refine rt_k (k := 1) (pc' := 29) (L' := [some (.ref 3), some (.retAddr 4), some (.int (nI i))]) (st' := [.ref 3]) (h' := h) (fun _ => rfl) ?_
  refine rt_gf rfl c rfl rfl ?_
  refine rt_k (k := 1) (pc' := 33) (L' := [some (.ref 3), some (.retAddr 4), some (.int (nI i))]) (st' := [.ref 3, .ref 1]) (h' := h) (fun _ => rfl) ?_
  refine rt_gf rfl c rfl rfl ?_
  refine rt_k (k := 1) (pc' := 37) (L' := [some (.ref 3), some (.retAddr 4), some (.int (nI i))]) (st' := [.int (nI i), .int (nI f), .ref 1]) (h' := h) (fun _ => rfl) ?_
  refine rt_add rfl ?_
  refine rt_cvE rfl (by decide) p1 rfl rfl rfl rfl (tp_at3 P (i := f + i) (by omega)) ?_
  refine rt_k (k := 2) (pc' := 43) (L' := [some (.ref 3), some (.retAddr 4), some (.int (nI i))]) (st' := [.int (nI i), .retAddr 4, .int (nI (T.getD (f + i) 0))]) (h' := h) (fun _ => rfl) ?_
  refine rt_cE rfl rfl (cst_char4 z) ?_
  refine rt_ieq rfl (by omega) (by omega) (fun z2 => ?_) (fun z2 => ?_)
  rotate_left
  ·
    refine rt_k (k := 1) (pc' := 50) (L' := [some (.ref 3), some (.retAddr 4), some (.int (nI i))]) (st' := [.int (nI 0)]) (h' := h) (fun _ => rfl) ?_
    exact rt_r (v := some (.int (nI 0))) rfl rfl (⟨ret0 (fun w => z2 (by rw [← w, sl_getD (by omega)])), rfl⟩)
  refine rt_inc (c := 1) rfl rfl ?_
  refine rt_k (k := 1) (pc' := 20) (L' := [some (.ref 3), some (.retAddr 4), some (.int (nI (i + 1)))]) (st' := []) (h' := h) (fun _ => rfl) ?_
  exact rd_wi4a C hl (i + 1) z (fun j hj => by
    by_cases q : j = i
    · subst q; exact z2
    · exact H j (by omega))
termination_by 2 - i
theorem rd_wi4 (C : rC h T f b p) : rt_ X (d + 4) 27 0 [some (.ref 3), some (.retAddr 4), none] [] h (fun v h' => v = some (.int (tB (sl T f b = tx 4))) ∧ h' = h) := by
  obtain ⟨P, c, h1, h2, h3⟩ := id C
  have hT := P.2.2.1
  refine rt_k (k := 1) (pc' := 1) (L' := [some (.ref 3), some (.retAddr 4), none]) (st' := [.ref 3]) (h' := h) (fun _ => rfl) ?_
  refine rt_gf rfl c rfl rfl ?_
  refine rt_k (k := 1) (pc' := 5) (L' := [some (.ref 3), some (.retAddr 4), none]) (st' := [.ref 3, .int (nI b)]) (h' := h) (fun _ => rfl) ?_
  refine rt_gf rfl c rfl rfl ?_
  refine rt_sub rfl (by omega) ?_
  refine rt_k (k := 1) (pc' := 10) (L' := [some (.ref 3), some (.retAddr 4), none]) (st' := [.retAddr 4, .int (nI (b - f))]) (h' := h) (fun _ => rfl) ?_
  refine rt_cE rfl rfl cst_len4 ?_
  refine rt_ieq rfl (by omega) (by decide) (fun z => ?_) (fun z => ?_)
  rotate_left
  ·
    refine rt_k (k := 1) (pc' := 17) (L' := [some (.ref 3), some (.retAddr 4), none]) (st' := [.int (nI 0)]) (h' := h) (fun _ => rfl) ?_
    exact rt_r (v := some (.int (nI 0))) rfl rfl (⟨ret0 (fun w => z (by have := congrArg List.length w; rw [sl_len h2] at this; exact this)), rfl⟩)
  refine rt_k (k := 2) (pc' := 20) (L' := [some (.ref 3), some (.retAddr 4), some (.int (nI 0))]) (st' := []) (h' := h) (fun _ => rfl) ?_
  exact rd_wi4a C z 0 (Nat.zero_le _) (fun j hj => absurd hj (Nat.not_lt_zero _))
theorem rd_cl (C : rC h T f b p) : rt_ X (d + 5) 26 0 [some (.ref 3)] [] h (fun v h' => v = some (.int (tB (isCl (sl T f b) = true))) ∧ h' = h) := by
  obtain ⟨P, c, h1, h2, h3⟩ := id C
  have e : isCl (sl T f b) = true ↔ sl T f b = tx 0 ∨ sl T f b = tx 1 ∨ sl T f b = tx 2 := by unfold isCl; rw [decide_eq_true_eq]
  refine rt_k (k := 2) (pc' := 3) (L' := [some (.ref 3)]) (st' := [.retAddr 0, .ref 3]) (h' := h) (fun _ => rfl) ?_
  refine rt_cvE rfl (by decide) c rfl rfl rfl rfl (rd_wi0 C) ?_
  refine rt_pn rfl (fun z0 => ?_) (fun z0 => ?_)
  ·
    refine rt_k (k := 2) (pc' := 32) (L' := [some (.ref 3)]) (st' := [.int (nI 1)]) (h' := h) (fun _ => rfl) ?_
    exact rt_r (v := some (.int (nI 1))) rfl rfl (⟨ret1 (e.mpr (Or.inl z0)), rfl⟩)
  refine rt_k (k := 2) (pc' := 12) (L' := [some (.ref 3)]) (st' := [.retAddr 1, .ref 3]) (h' := h) (fun _ => rfl) ?_
  refine rt_cvE rfl (by decide) c rfl rfl rfl rfl (rd_wi1 C) ?_
  refine rt_pn rfl (fun z1 => ?_) (fun z1 => ?_)
  ·
    refine rt_k (k := 2) (pc' := 32) (L' := [some (.ref 3)]) (st' := [.int (nI 1)]) (h' := h) (fun _ => rfl) ?_
    exact rt_r (v := some (.int (nI 1))) rfl rfl (⟨ret1 (e.mpr (Or.inr (Or.inl z1))), rfl⟩)
  refine rt_k (k := 2) (pc' := 21) (L' := [some (.ref 3)]) (st' := [.retAddr 2, .ref 3]) (h' := h) (fun _ => rfl) ?_
  refine rt_cvE rfl (by decide) c rfl rfl rfl rfl (rd_wi2 C) ?_
  refine rt_pe rfl (fun z2 => ?_) (fun z2 => ?_)
  ·
    refine rt_k (k := 1) (pc' := 32) (L' := [some (.ref 3)]) (st' := [.int (nI 0)]) (h' := h) (fun _ => rfl) ?_
    exact rt_r (v := some (.int (nI 0))) rfl rfl (⟨ret0 (fun w => by rcases e.mp w with w | w | w; exact z0 w; exact z1 w; exact z2 w), rfl⟩)
  refine rt_k (k := 2) (pc' := 32) (L' := [some (.ref 3)]) (st' := [.int (nI 1)]) (h' := h) (fun _ => rfl) ?_
  exact rt_r (v := some (.int (nI 1))) rfl rfl (⟨ret1 (e.mpr (Or.inr (Or.inr z2))), rfl⟩)
end RD

