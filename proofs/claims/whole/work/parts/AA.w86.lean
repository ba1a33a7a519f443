/-! THE REFERENCE, 21: roots. -/
def dRo (D : kD) (w : kW) (v : Option Value) : Prop := (∃ (p : Nat) (e : kW × kR), D[p]? = some e ∧ e.1 = w ∧ (∀ (j : Nat) e', j < p → D[j]? = some e' → ¬ e'.1 = w) ∧ v = some (.int (nI p))) ∨ ((∀ e ∈ D, ¬ e.1 = w) ∧ v = some (.int (-1)))
def shf (F : Nat → Option Nat) (k i : Nat) : Nat → Option Nat := fun j => if k ≤ j ∧ j < i then F (j + 1) else F j
theorem shf_s (F : Nat → Option Nat) {k i : Nat} (h : k ≤ i) : va_up (shf F k i) i (F (i + 1)) = shf F k (i + 1) := by
  funext j
  unfold va_up shf
  by_cases q : j = i
  · rw [if_pos q, if_pos ⟨by omega, by omega⟩, q]
  · rw [if_neg q]
    by_cases y : k ≤ j ∧ j < i
    · rw [if_pos y, if_pos ⟨y.1, by omega⟩]
    · rw [if_neg y, if_neg (fun z => y ⟨z.1, by omega⟩)]
theorem shf_0 (F : Nat → Option Nat) (k : Nat) : shf F k k = F := by
  funext j
  unfold shf
  rw [if_neg (by omega)]
section MU
variable {X : Nat × (Nat → Int32)} {d : Nat} {h : List va_E} {Q : Option Value → List va_E → Prop} {ad : Nat → Nat} {T : List Nat} {J : List kL} {nx : Nat} {D : kD} {K : List kG} {made : Nat} {st : kS}
theorem m_ro1 {x y z : Int32} {o : Nat → Int32} {na : Nat} {w : kW} (c23 : h[23]? = some (mo x y z o)) (ho : o 2 = nI D.length) (CD : mD h D) (S : sS h na w) (i : Nat) (hi : i ≤ D.length) (H : ∀ (j : Nat) e, j < i → D[j]? = some e → ¬ e.1 = w) : rt_ X (d + 2) 154 2 [some (.ref 23), some (.ref na), some (.int (nI i))] [] h (fun v h' => h' = h ∧ dRo D w v) := by
  obtain ⟨NF, RF, c27, c28, hd, HD⟩ := id CD
  have c23' : h[23]? = some (.inr (12, [.ref 24, .int x, .ref 25, .int y, .int z, .ref 26, .int (o 0), .int (o 1), .ref 27, .ref 28, .int (nI D.length), .ref 29, .int (o 3), .int (o 4), .ref 30, .ref 31, .int (o 5), .ref 32, .int (o 6), .ref 33, .ref 34, .int (o 7), .int (o 8), .ref 35])) := by rw [← ho]; exact c23
  refine rt_k (k := 2) (pc' := 4) (L' := [some (.ref 23), some (.ref na), some (.int (nI i))]) (st' := [.ref 23, .int (nI i)]) (h' := h) (fun _ => rfl) ?_
  refine rt_gf rfl c23' rfl rfl ?_
  refine rt_ige rfl (by omega) (by omega) (fun z => ?_) (fun z => ?_)
  ·
    refine rt_k (k := 1) (pc' := 32) (L' := [some (.ref 23), some (.ref na), some (.int (nI i))]) (st' := [.int (-1)]) (h' := h) (fun _ => rfl) ?_
    exact rt_r (v := some (.int (-1))) rfl rfl (⟨rfl, Or.inr ⟨fun e he => by obtain ⟨j, hj⟩ := gt_mem he; exact H j e (by have := gt_lt hj; omega) hj, rfl⟩⟩)
  obtain ⟨e, he⟩ := gt_ex z
  obtain ⟨⟨b, f1, Sb⟩, -⟩ := HD i e he
  obtain ⟨bv, bx, by', bcc, -, -⟩ := Sb.at
  refine rt_k (k := 1) (pc' := 11) (L' := [some (.ref 23), some (.ref na), some (.int (nI i))]) (st' := [.ref 23]) (h' := h) (fun _ => rfl) ?_
  refine rt_gf rfl c23' rfl rfl ?_
  refine rt_k (k := 1) (pc' := 15) (L' := [some (.ref 23), some (.ref na), some (.int (nI i))]) (st' := [.int (nI i), .ref 27]) (h' := h) (fun _ => rfl) ?_
  refine rt_aalN rfl c27 rfl (by omega) (by decide) f1 ?_
  refine rt_k (k := 1) (pc' := 17) (L' := [some (.ref 23), some (.ref na), some (.int (nI i))]) (st' := [.ref na, .ref b]) (h' := h) (fun _ => rfl) ?_
  refine rt_cvE rfl (by decide) bcc rfl rfl rfl rfl (st_eq Sb S) ?_
  refine rt_pe rfl (fun z1 => ?_) (fun z1 => ?_)
  rotate_left
  ·
    refine rt_k (k := 1) (pc' := 24) (L' := [some (.ref 23), some (.ref na), some (.int (nI i))]) (st' := [.int (nI i)]) (h' := h) (fun _ => rfl) ?_
    exact rt_r (v := some (.int (nI i))) rfl rfl (⟨rfl, Or.inl ⟨i, e, he, z1, H, rfl⟩⟩)
  refine rt_inc (c := 1) rfl rfl ?_
  refine rt_k (k := 1) (pc' := 2) (L' := [some (.ref 23), some (.ref na), some (.int (nI (i + 1)))]) (st' := []) (h' := h) (fun _ => rfl) ?_
  exact m_ro1 c23 ho CD S (i + 1) z (fun j e' hj he' => by
    by_cases q : j = i
    · subst q; rw [he] at he'; cases he'; exact z1
    · exact H j e' (by omega) he')
termination_by D.length - i
theorem m_rootOf {x y z : Int32} {o : Nat → Int32} {na : Nat} {w : kW} (c23 : h[23]? = some (mo x y z o)) (ho : o 2 = nI D.length) (CD : mD h D) (S : sS h na w) : rt_ X (d + 2) 154 0 [some (.ref 23), some (.ref na), none] [] h (fun v h' => h' = h ∧ dRo D w v) := by
  refine rt_k (k := 2) (pc' := 2) (L' := [some (.ref 23), some (.ref na), some (.int (nI 0))]) (st' := []) (h' := h) (fun _ => rfl) ?_
  exact m_ro1 c23 ho CD S 0 (Nat.zero_le _) (fun j e hj => absurd hj (Nat.not_lt_zero _))
def uwR (ws : List kW) (D : kD) (v : Option Value) (D' : kD) : Prop := ((¬ ∃ w, ws = [w] ∧ isNm w = true) ∧ v = some (.int (-6)) ∧ D' = D) ∨ ∃ w, ws = [w] ∧ isNm w = true ∧ (((∀ e ∈ D, ¬ e.1 = w) ∧ v = some (.int (-2)) ∧ D' = D) ∨ ∃ (p : Nat) (e : kW × kR), D[p]? = some e ∧ e.1 = w ∧ (∀ (j : Nat) e', j < p → D[j]? = some e' → ¬ e'.1 = w) ∧ v = some (.int (nI (D.length - 1))) ∧ D' = D.eraseIdx p)
def wnR (ws : List kW) (D : kD) (v : Option Value) (D' : kD) : Prop := ((¬ ∃ w us R, ws = w :: us ∧ isNm w = true ∧ pRng us = some (R, [])) ∧ v = some (.int (-6)) ∧ D' = D) ∨ ∃ w us R, ws = w :: us ∧ isNm w = true ∧ pRng us = some (R, []) ∧ ((D.length = 6 ∧ (∀ e ∈ D, ¬ e.1 = w) ∧ v = some (.int (-3)) ∧ D' = D) ∨ (D.length < 6 ∧ (∀ e ∈ D, ¬ e.1 = w) ∧ v = some (.int (nI (D.length + 1))) ∧ D' = D ++ [(w, R)]) ∨ ∃ (p : Nat) (e : kW × kR), D[p]? = some e ∧ e.1 = w ∧ (∀ (j : Nat) e', j < p → D[j]? = some e' → ¬ e'.1 = w) ∧ v = some (.int (nI D.length)) ∧ D' = D.set p (w, R))
/-- the rows behind a root move up -/
theorem m_uw1 {x y z : Int32} {o : Nat → Int32} {NF RF : Nat → Option Nat} (p : Nat) (hp : p < D.length) (hd : D.length ≤ 6) (i : Nat) (hpi : p ≤ i) (hi : i ≤ D.length - 1) (h : List va_E) (c23 : h[23]? = some (mo x y z o)) (ho : o 2 = nI (D.length - 1)) (c27 : h[27]? = some (.inl (9, 6, .inr (.inr (.inr (.inr (shf NF p i))))))) (c28 : h[28]? = some (.inl (11, 6, .inr (.inr (.inr (.inr (shf RF p i))))))) (HD : yDf 0 h NF RF D) (x1 : Int32) (k : ∀ h', fr_ (fun z => z = 27 ∨ z = 28) h h' → h'[27]? = some (.inl (9, 6, .inr (.inr (.inr (.inr (shf NF p (D.length - 1))))))) → h'[28]? = some (.inl (11, 6, .inr (.inr (.inr (.inr (shf RF p (D.length - 1))))))) → rt_ X d 155 95 [some (.ref 23), some (.int x1), some (.int (nI (D.length - 1)))] [] h' Q) : rt_ X d 155 53 [some (.ref 23), some (.int x1), some (.int (nI i))] [] h Q := by
  have c23' : h[23]? = some (.inr (12, [.ref 24, .int x, .ref 25, .int y, .int z, .ref 26, .int (o 0), .int (o 1), .ref 27, .ref 28, .int (nI (D.length - 1)), .ref 29, .int (o 3), .int (o 4), .ref 30, .ref 31, .int (o 5), .ref 32, .int (o 6), .ref 33, .ref 34, .int (o 7), .int (o 8), .ref 35])) := by rw [← ho]; exact c23
  refine rt_k (k := 2) (pc' := 55) (L' := [some (.ref 23), some (.int x1), some (.int (nI i))]) (st' := [.ref 23, .int (nI i)]) (h' := h) (fun _ => rfl) ?_
  refine rt_gf rfl c23' rfl rfl ?_
  refine rt_ige rfl (by omega) (by omega) (fun z0 => ?_) (fun z0 => ?_)
  ·
    have e : i = D.length - 1 := by omega
    subst e
    exact k h fr_rf c27 c28
  obtain ⟨e, he⟩ := gt_ex (show i + 1 < D.length by omega)
  obtain ⟨⟨b, f1, Sb⟩, ra, f2, Yr⟩ := HD (i + 1) e he
  obtain ⟨bv, bx, by', bcc, -, -⟩ := Sb.at
  obtain ⟨sg, ve, ts, S', F', N', ⟨-, rcc⟩, -⟩ := id Yr
  have g1 : shf NF p i (i + 1) = some b := by unfold shf; rw [if_neg (by omega)]; exact f1
  have g2 : shf RF p i (i + 1) = some ra := by unfold shf; rw [if_neg (by omega)]; exact f2
  refine rt_k (k := 1) (pc' := 62) (L' := [some (.ref 23), some (.int x1), some (.int (nI i))]) (st' := [.ref 23]) (h' := h) (fun _ => rfl) ?_
  refine rt_gf rfl c23' rfl rfl ?_
  refine rt_k (k := 2) (pc' := 67) (L' := [some (.ref 23), some (.int x1), some (.int (nI i))]) (st' := [.ref 23, .int (nI i), .ref 27]) (h' := h) (fun _ => rfl) ?_
  refine rt_gf rfl c23' rfl rfl ?_
  refine rt_k (k := 2) (pc' := 72) (L' := [some (.ref 23), some (.int x1), some (.int (nI i))]) (st' := [.int (nI 1), .int (nI i), .ref 27, .int (nI i), .ref 27]) (h' := h) (fun _ => rfl) ?_
  refine rt_add rfl ?_
  refine rt_aalN rfl c27 rfl (by omega) (by decide) g1 ?_
  refine rt_aasN rfl c27 bcc ⟨rfl, rfl⟩ (by omega) (by decide) ?_
  refine rt_nm (fun h_1 e_2 => ?_)
  have f_3 : fr_ (fun z => z = 27 ∨ z = 28) h h_1 := by rw [e_2]; exact fr_set (e' := .inl (9, 6, .inr (.inr (.inr (.inr (va_up (shf NF p i) i (some b))))))) c27 (by rfl) (by first | decide | simp)
  have n_4 : h_1.length = h.length := by rw [e_2]; simp
  have c_5 : h_1[23]? = some (.inr (12, [.ref 24, .int x, .ref 25, .int y, .int z, .ref 26, .int (o 0), .int (o 1), .ref 27, .ref 28, .int (nI (D.length - 1)), .ref 29, .int (o 3), .int (o 4), .ref 30, .ref 31, .int (o 5), .ref 32, .int (o 6), .ref 33, .ref 34, .int (o 7), .int (o 8), .ref 35])) := by rw [e_2]; exact hs_ne c23' (by decide)
  have c_6 : h_1[27]? = some (.inl (9, 6, .inr (.inr (.inr (.inr (va_up (shf NF p i) i (some b))))))) := by rw [e_2]; exact hs_self c27
  have c_7 : h_1[28]? = some (.inl (11, 6, .inr (.inr (.inr (.inr (shf RF p i)))))) := by rw [e_2]; exact hs_ne c28 (by decide)
  have c_8 : h_1[b]? = some (.inr (17, [.ref bv, .int (nI 0), .int bx, .int by'])) := by rw [e_2]; exact hs_ne bcc (hc_ne c27 bcc (by intro q; cases q))
  have c_9 : h_1[ra]? = some (.inr (16, [.ref sg, .ref ve, .ref ts, .int (nI e.2.length)])) := by rw [e_2]; exact hs_ne rcc (hc_ne c27 rcc (by intro q; cases q))
  refine rt_k (k := 1) (pc' := 76) (L' := [some (.ref 23), some (.int x1), some (.int (nI i))]) (st' := [.ref 23]) (h' := h_1) (fun _ => rfl) ?_
  refine rt_gf rfl c_5 rfl rfl ?_
  refine rt_k (k := 2) (pc' := 81) (L' := [some (.ref 23), some (.int x1), some (.int (nI i))]) (st' := [.ref 23, .int (nI i), .ref 28]) (h' := h_1) (fun _ => rfl) ?_
  refine rt_gf rfl c_5 rfl rfl ?_
  refine rt_k (k := 2) (pc' := 86) (L' := [some (.ref 23), some (.int x1), some (.int (nI i))]) (st' := [.int (nI 1), .int (nI i), .ref 28, .int (nI i), .ref 28]) (h' := h_1) (fun _ => rfl) ?_
  refine rt_add rfl ?_
  refine rt_aalN rfl c_7 rfl (by omega) (by decide) g2 ?_
  refine rt_aasN rfl c_7 c_9 ⟨rfl, rfl⟩ (by omega) (by decide) ?_
  refine rt_nm (fun h_10 e_11 => ?_)
  have f_12 : fr_ (fun z => z = 27 ∨ z = 28) h h_10 := by rw [e_11]; exact fr_tr f_3 (fr_set (e' := .inl (11, 6, .inr (.inr (.inr (.inr (va_up (shf RF p i) i (some ra))))))) c_7 (by rfl) (by first | decide | simp))
  have n_13 : h_10.length = h_1.length := by rw [e_11]; simp
  have c_14 : h_10[23]? = some (.inr (12, [.ref 24, .int x, .ref 25, .int y, .int z, .ref 26, .int (o 0), .int (o 1), .ref 27, .ref 28, .int (nI (D.length - 1)), .ref 29, .int (o 3), .int (o 4), .ref 30, .ref 31, .int (o 5), .ref 32, .int (o 6), .ref 33, .ref 34, .int (o 7), .int (o 8), .ref 35])) := by rw [e_11]; exact hs_ne c_5 (by decide)
  have c_15 : h_10[27]? = some (.inl (9, 6, .inr (.inr (.inr (.inr (va_up (shf NF p i) i (some b))))))) := by rw [e_11]; exact hs_ne c_6 (by decide)
  have c_16 : h_10[28]? = some (.inl (11, 6, .inr (.inr (.inr (.inr (va_up (shf RF p i) i (some ra))))))) := by rw [e_11]; exact hs_self c_7
  have c_17 : h_10[b]? = some (.inr (17, [.ref bv, .int (nI 0), .int bx, .int by'])) := by rw [e_11]; exact hs_ne c_8 (hc_ne c_7 c_8 (by intro q; cases q))
  have c_18 : h_10[ra]? = some (.inr (16, [.ref sg, .ref ve, .ref ts, .int (nI e.2.length)])) := by rw [e_11]; exact hs_ne c_9 (hc_ne c_7 c_9 (by intro q; cases q))
  refine rt_inc (c := 1) rfl rfl ?_
  refine rt_k (k := 1) (pc' := 53) (L' := [some (.ref 23), some (.int x1), some (.int (nI (i + 1)))]) (st' := []) (h' := h_10) (fun _ => rfl) ?_
  have FF := f_12
  have k3 := c_14
  rw [← ho] at k3
  have k7 := c_15
  have k8 := c_16
  rw [← f1, shf_s NF hpi] at k7
  rw [← f2, shf_s RF hpi] at k8
  exact m_uw1 p hp hd (i + 1) (by omega) (by omega) _ k3 ho k7 k8 (HD.ex (fr_ex FF (fun k q => by unfold zz at q; omega))) x1 (fun h' F' => k h' (fr_tr FF F'))
termination_by D.length - i
theorem yDf_era {NF RF : Nat → Option Nat} {p : Nat} (HD : yDf 0 h NF RF D) : yDf 0 h (shf NF p (D.length - 1)) (shf RF p (D.length - 1)) (D.eraseIdx p) := fun i e he => by
  unfold shf
  rcases gt_era he with ⟨q1, q2⟩ | ⟨q1, q2⟩
  · rw [if_neg (by omega), if_neg (by omega)]
    exact HD i e q2
  · have := gt_lt q2
    rw [if_pos ⟨q1, by omega⟩, if_pos ⟨q1, by omega⟩]
    exact HD (i + 1) e q2
end MU

