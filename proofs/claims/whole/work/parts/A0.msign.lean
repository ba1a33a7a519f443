/-! THE REFERENCE, 11: signs; what stays while a range is read. -/
theorem sgn_t {w : kW} : (w.take 2 = tx 6 → sgn w = (3, 2)) ∧ (w.take 2 = tx 7 → sgn w = (5, 2)) ∧ (¬ w.take 2 = tx 6 → w.take 1 = tx 8 → sgn w = (2, 1)) ∧ (¬ w.take 2 = tx 7 → w.take 1 = tx 9 → sgn w = (4, 1)) ∧ (w.take 1 = tx 10 → sgn w = (6, 1)) ∧ (w.take 1 = tx 11 → sgn w = (7, 1)) ∧ (w.take 1 = tx 12 → sgn w = (1, 1)) ∧ (¬ w.take 1 = tx 8 → ¬ w.take 1 = tx 9 → ¬ w.take 1 = tx 10 → ¬ w.take 1 = tx 11 → ¬ w.take 1 = tx 12 → sgn w = (1, 0)) := by
  have e6 : tx 6 = [60, 61] := rfl
  have e7 : tx 7 = [62, 61] := rfl
  have e8 : tx 8 = [60] := rfl
  have e9 : tx 9 = [62] := rfl
  have e10 : tx 10 = [94] := rfl
  have e11 : tx 11 = [126] := rfl
  have e12 : tx 12 = [61] := rfl
  rw [e6, e7, e8, e9, e10, e11, e12]
  cases w with
  | nil => exact ⟨fun q => (by cases q), fun q => (by cases q), fun _ q => (by cases q), fun _ q => (by cases q), fun q => (by cases q), fun q => (by cases q), fun q => (by cases q), fun _ _ _ _ _ => rfl⟩
  | cons c t =>
    have t1 : (c :: t).take 1 = [c] := by simp
    rw [t1]
    have hd : ∀ x, t.take 1 = [x] → t.head? = some x := fun x q => by cases t with
      | nil => cases q
      | cons y t => simp at q; rw [q]; rfl
    refine ⟨fun q => ?_, fun q => ?_, fun n q => ?_, fun n q => ?_, fun q => ?_, fun q => ?_, fun q => ?_, fun n1 n2 n3 n4 n5 => ?_⟩
    · rw [List.take_succ_cons] at q
      injection q with q1 q2
      rw [q1, sgn_60, if_pos (hd _ q2)]
    · rw [List.take_succ_cons] at q
      injection q with q1 q2
      rw [q1, sgn_62, if_pos (hd _ q2)]
    · injection q with q1 q2
      rw [q1] at n ⊢
      rw [sgn_60, if_neg]
      intro y
      apply n
      cases t with
      | nil => cases y
      | cons z t => cases y; rfl
    · injection q with q1 q2
      rw [q1] at n ⊢
      rw [sgn_62, if_neg]
      intro y
      apply n
      cases t with
      | nil => cases y
      | cons z t => cases y; rfl
    · injection q with q1 q2; rw [q1, sgn_94]
    · injection q with q1 q2; rw [q1, sgn_126]
    · injection q with q1 q2; rw [q1, sgn_61]
    · exact sgn_o c t ⟨fun q => n1 (by rw [q]), fun q => n2 (by rw [q]), fun q => n3 (by rw [q]), fun q => n4 (by rw [q]), fun q => n5 (by rw [q])⟩
theorem sgn_len (w : kW) : (sgn w).2 ≤ w.length ∧ 1 ≤ (sgn w).1 ∧ (sgn w).1 ≤ 7 := by
  unfold sgn
  split <;> simp
section ML
variable {X : Nat × (Nat → Int32)} {d : Nat} {h : List va_E} {Q : Option Value → List va_E → Prop} {w : kW} {a : Nat}
theorem m_sign (A : sS h a w) : rt_ X (d + 4) 146 0 [some (.ref a)] [] h (fun v h' => v = some (.int (nI (sgn w).1)) ∧ h' = h) := by
  obtain ⟨v, x, y, c1, -, hb⟩ := A.at
  obtain ⟨s6, s7, s8, s9, s10, s11, s12, s0⟩ := @sgn_t w
  refine rt_k (k := 2) (pc' := 3) (L' := [some (.ref a)]) (st' := [.retAddr 6, .ref a]) (h' := h) (fun _ => rfl) ?_
  refine rt_cvE rfl (by decide) c1 rfl rfl rfl rfl (cs_6 A) ?_
  refine rt_pe rfl (fun z6 => ?_) (fun z6 => ?_)
  rotate_left
  ·
    refine rt_k (k := 1) (pc' := 10) (L' := [some (.ref a)]) (st' := [.int (nI 3)]) (h' := h) (fun _ => rfl) ?_
    exact rt_r (v := some (.int (nI 3))) rfl rfl (⟨by rw [s6 z6], rfl⟩)
  refine rt_k (k := 2) (pc' := 14) (L' := [some (.ref a)]) (st' := [.retAddr 7, .ref a]) (h' := h) (fun _ => rfl) ?_
  refine rt_cvE rfl (by decide) c1 rfl rfl rfl rfl (cs_7 A) ?_
  refine rt_pe rfl (fun z7 => ?_) (fun z7 => ?_)
  rotate_left
  ·
    refine rt_k (k := 1) (pc' := 21) (L' := [some (.ref a)]) (st' := [.int (nI 5)]) (h' := h) (fun _ => rfl) ?_
    exact rt_r (v := some (.int (nI 5))) rfl rfl (⟨by rw [s7 z7], rfl⟩)
  refine rt_k (k := 2) (pc' := 25) (L' := [some (.ref a)]) (st' := [.retAddr 8, .ref a]) (h' := h) (fun _ => rfl) ?_
  refine rt_cvE rfl (by decide) c1 rfl rfl rfl rfl (cs_8 A) ?_
  refine rt_pe rfl (fun z8 => ?_) (fun z8 => ?_)
  rotate_left
  ·
    refine rt_k (k := 1) (pc' := 32) (L' := [some (.ref a)]) (st' := [.int (nI 2)]) (h' := h) (fun _ => rfl) ?_
    exact rt_r (v := some (.int (nI 2))) rfl rfl (⟨by rw [s8 z6 z8], rfl⟩)
  refine rt_k (k := 2) (pc' := 36) (L' := [some (.ref a)]) (st' := [.retAddr 9, .ref a]) (h' := h) (fun _ => rfl) ?_
  refine rt_cvE rfl (by decide) c1 rfl rfl rfl rfl (cs_9 A) ?_
  refine rt_pe rfl (fun z9 => ?_) (fun z9 => ?_)
  rotate_left
  ·
    refine rt_k (k := 1) (pc' := 43) (L' := [some (.ref a)]) (st' := [.int (nI 4)]) (h' := h) (fun _ => rfl) ?_
    exact rt_r (v := some (.int (nI 4))) rfl rfl (⟨by rw [s9 z7 z9], rfl⟩)
  refine rt_k (k := 2) (pc' := 47) (L' := [some (.ref a)]) (st' := [.retAddr 10, .ref a]) (h' := h) (fun _ => rfl) ?_
  refine rt_cvE rfl (by decide) c1 rfl rfl rfl rfl (cs_10 A) ?_
  refine rt_pe rfl (fun z10 => ?_) (fun z10 => ?_)
  rotate_left
  ·
    refine rt_k (k := 1) (pc' := 55) (L' := [some (.ref a)]) (st' := [.int (nI 6)]) (h' := h) (fun _ => rfl) ?_
    exact rt_r (v := some (.int (nI 6))) rfl rfl (⟨by rw [s10 z10], rfl⟩)
  refine rt_k (k := 2) (pc' := 59) (L' := [some (.ref a)]) (st' := [.retAddr 11, .ref a]) (h' := h) (fun _ => rfl) ?_
  refine rt_cvE rfl (by decide) c1 rfl rfl rfl rfl (cs_11 A) ?_
  refine rt_pe rfl (fun z11 => ?_) (fun z11 => ?_)
  rotate_left
  ·
    refine rt_k (k := 2) (pc' := 71) (L' := [some (.ref a)]) (st' := [.int (nI 7)]) (h' := h) (fun _ => rfl) ?_
    exact rt_r (v := some (.int (nI 7))) rfl rfl (⟨by rw [s11 z11], rfl⟩)
  have e : (sgn w).1 = 1 := by
    by_cases z12 : w.take 1 = tx 12
    · rw [s12 z12]
    · rw [s0 z8 z9 z10 z11 z12]
  refine rt_k (k := 1) (pc' := 71) (L' := [some (.ref a)]) (st' := [.int (nI 1)]) (h' := h) (fun _ => rfl) ?_
  exact rt_r (v := some (.int (nI 1))) rfl rfl (⟨by rw [e], rfl⟩)
theorem m_signLength (A : sS h a w) : rt_ X (d + 4) 147 0 [some (.ref a)] [] h (fun v h' => v = some (.int (nI (sgn w).2)) ∧ h' = h) := by
  obtain ⟨v, x, y, c1, -, hb⟩ := A.at
  obtain ⟨s6, s7, s8, s9, s10, s11, s12, s0⟩ := @sgn_t w
  refine rt_k (k := 2) (pc' := 3) (L' := [some (.ref a)]) (st' := [.retAddr 6, .ref a]) (h' := h) (fun _ => rfl) ?_
  refine rt_cvE rfl (by decide) c1 rfl rfl rfl rfl (cs_6 A) ?_
  refine rt_pn rfl (fun z6 => ?_) (fun z6 => ?_)
  ·
    refine rt_k (k := 1) (pc' := 19) (L' := [some (.ref a)]) (st' := [.int (nI 2)]) (h' := h) (fun _ => rfl) ?_
    exact rt_r (v := some (.int (nI 2))) rfl rfl (⟨by rw [s6 z6], rfl⟩)
  refine rt_k (k := 2) (pc' := 12) (L' := [some (.ref a)]) (st' := [.retAddr 7, .ref a]) (h' := h) (fun _ => rfl) ?_
  refine rt_cvE rfl (by decide) c1 rfl rfl rfl rfl (cs_7 A) ?_
  refine rt_pe rfl (fun z7 => ?_) (fun z7 => ?_)
  rotate_left
  ·
    refine rt_k (k := 1) (pc' := 19) (L' := [some (.ref a)]) (st' := [.int (nI 2)]) (h' := h) (fun _ => rfl) ?_
    exact rt_r (v := some (.int (nI 2))) rfl rfl (⟨by rw [s7 z7], rfl⟩)
  refine rt_k (k := 2) (pc' := 23) (L' := [some (.ref a)]) (st' := [.retAddr 8, .ref a]) (h' := h) (fun _ => rfl) ?_
  refine rt_cvE rfl (by decide) c1 rfl rfl rfl rfl (cs_8 A) ?_
  refine rt_pn rfl (fun z8 => ?_) (fun z8 => ?_)
  ·
    refine rt_k (k := 2) (pc' := 70) (L' := [some (.ref a)]) (st' := [.int (nI 1)]) (h' := h) (fun _ => rfl) ?_
    exact rt_r (v := some (.int (nI 1))) rfl rfl (⟨by rw [s8 z6 z8], rfl⟩)
  refine rt_k (k := 2) (pc' := 32) (L' := [some (.ref a)]) (st' := [.retAddr 9, .ref a]) (h' := h) (fun _ => rfl) ?_
  refine rt_cvE rfl (by decide) c1 rfl rfl rfl rfl (cs_9 A) ?_
  refine rt_pn rfl (fun z9 => ?_) (fun z9 => ?_)
  ·
    refine rt_k (k := 2) (pc' := 70) (L' := [some (.ref a)]) (st' := [.int (nI 1)]) (h' := h) (fun _ => rfl) ?_
    exact rt_r (v := some (.int (nI 1))) rfl rfl (⟨by rw [s9 z7 z9], rfl⟩)
  refine rt_k (k := 2) (pc' := 41) (L' := [some (.ref a)]) (st' := [.retAddr 12, .ref a]) (h' := h) (fun _ => rfl) ?_
  refine rt_cvE rfl (by decide) c1 rfl rfl rfl rfl (cs_12 A) ?_
  refine rt_pn rfl (fun z12 => ?_) (fun z12 => ?_)
  ·
    refine rt_k (k := 2) (pc' := 70) (L' := [some (.ref a)]) (st' := [.int (nI 1)]) (h' := h) (fun _ => rfl) ?_
    exact rt_r (v := some (.int (nI 1))) rfl rfl (⟨by rw [s12 z12], rfl⟩)
  refine rt_k (k := 2) (pc' := 50) (L' := [some (.ref a)]) (st' := [.retAddr 10, .ref a]) (h' := h) (fun _ => rfl) ?_
  refine rt_cvE rfl (by decide) c1 rfl rfl rfl rfl (cs_10 A) ?_
  refine rt_pn rfl (fun z10 => ?_) (fun z10 => ?_)
  ·
    refine rt_k (k := 2) (pc' := 70) (L' := [some (.ref a)]) (st' := [.int (nI 1)]) (h' := h) (fun _ => rfl) ?_
    exact rt_r (v := some (.int (nI 1))) rfl rfl (⟨by rw [s10 z10], rfl⟩)
  refine rt_k (k := 2) (pc' := 59) (L' := [some (.ref a)]) (st' := [.retAddr 11, .ref a]) (h' := h) (fun _ => rfl) ?_
  refine rt_cvE rfl (by decide) c1 rfl rfl rfl rfl (cs_11 A) ?_
  refine rt_pe rfl (fun z11 => ?_) (fun z11 => ?_)
  rotate_left
  ·
    refine rt_k (k := 2) (pc' := 70) (L' := [some (.ref a)]) (st' := [.int (nI 1)]) (h' := h) (fun _ => rfl) ?_
    exact rt_r (v := some (.int (nI 1))) rfl rfl (⟨by rw [s11 z11], rfl⟩)
  refine rt_k (k := 1) (pc' := 70) (L' := [some (.ref a)]) (st' := [.int (nI 0)]) (h' := h) (fun _ => rfl) ?_
  exact rt_r (v := some (.int (nI 0))) rfl rfl (⟨by rw [s0 z8 z9 z10 z11 z12], rfl⟩)
end ML
/-! cells of a kind that stay -/
def eW (P : Nat → va_E → Prop) (h h' : List va_E) : Prop := ∀ a e, P a e → z_ h a e → z_ h' a e
theorem eW.tr {P : Nat → va_E → Prop} {h h1 h2 : List va_E} (a : eW P h h1) (b : eW P h1 h2) : eW P h h2 := fun k e p q => b k e p (a k e p q)
theorem eW.c {P : Nat → va_E → Prop} {h h1 : List va_E} {a : Nat} {e : va_E} (E : eW P h h1) (q : z_ h a e) (p : P a e) : z_ h1 a e := E a e p q
theorem eW.mo {P P' : Nat → va_E → Prop} {h h1 : List va_E} (a : eW P h h1) (hp : ∀ k e, P' k e → P k e) : eW P' h h1 := fun k e p q => a k e (hp k e p) q
theorem ew_ex {P : Nat → va_E → Prop} {h h1 : List va_E} (a : ex_ h h1) : eW P h h1 := fun k e _ q => a k e q
theorem ew_fr {A : Nat → Prop} {P : Nat → va_E → Prop} {h h' : List va_E} (F : fr_ A h h') (hA : ∀ k, A k → ¬ zz k ∨ ∃ e, h[k]? = some e ∧ ¬ P k e) : eW P h h' := fun k e p q => by
  refine ⟨q.1, fr_at F (fun ha => ?_) q.2⟩
  rcases hA k ha with y | ⟨e', y1, y2⟩
  · exact y q.1
  · have := q.2
    rw [y1] at this
    cases this
    exact y2 p
/-- of a version -/
def okV (l : Nat) (a : Nat) (e : va_E) : Prop := match e with
  | .inr (ci, _) => ci = 15 ∨ ci = 17
  | .inl (t, n, _) => t = 3 ∨ (t = 2 ∧ n = 3) ∨ (t = 9 ∧ n = 4 ∧ l ≤ a)
/-- of a version or a range -/
def okL (l : Nat) (a : Nat) (e : va_E) : Prop := match e with
  | .inr (ci, _) => ci = 15 ∨ ci = 16 ∨ ci = 17
  | .inl (t, n, _) => t = 3 ∨ (t = 2 ∧ (n = 3 ∨ n = 16 ∨ n = 4)) ∨ t = 13 ∨ (t = 9 ∧ n = 4 ∧ l ≤ a)
theorem okV_L {l : Nat} : ∀ k e, okV l k e → okL l k e := by
  rintro k (⟨t, n, f⟩ | ⟨ci, fs⟩) q
  · rcases q with q | q | q
    · exact Or.inl q
    · exact Or.inr (Or.inl ⟨q.1, Or.inl q.2⟩)
    · exact Or.inr (Or.inr (Or.inr q))
  · rcases q with q | q
    · exact Or.inl q
    · exact Or.inr (Or.inr q)
theorem sS.ew {l : Nat} {h h' : List va_E} {a : Nat} {w : kW} (E : eW (okV l) h h') (C : sS h a w) : sS h' a w := by
  obtain ⟨v, x, y, c1, ⟨f, c2, c3⟩, c4, c5⟩ := C
  exact ⟨v, x, y, E.c c1 (Or.inr rfl), ⟨f, E.c c2 (Or.inl rfl), c3⟩, c4, c5⟩
theorem yVl.ew {l : Nat} {h h' : List va_E} {a : Nat} {v : kV} (E : eW (okV l) h h') (C : yVl l h a v) : yVl l h' a v := by
  obtain ⟨⟨na, ma, N, F, a1, a2, a3, a4, a5, a6⟩, na', ma', x, c, hl⟩ := C
  have e := a1.2
  rw [c] at e
  cases e
  have b1 := E.c a1 (Or.inl rfl)
  exact ⟨⟨na, ma, N, F, b1, E.c a2 (Or.inr (Or.inl ⟨rfl, rfl⟩)), E.c a3 (Or.inr (Or.inr ⟨rfl, rfl, hl⟩)), a4, fun i m hm => by
    obtain ⟨b, y1, y2⟩ := a5 i m hm
    exact ⟨b, y1, y2.ew E⟩, a6⟩, na, ma, _, b1.2, hl⟩
theorem yT.ew {l : Nat} {h h' : List va_E} {s : Int32} {f : Option Nat} {t : kT} (E : eW (okV l) h h') (C : yT l h s f t) : yT l h' s f t := by
  cases t with
  | none => exact C
  | some e =>
    obtain ⟨a, b, c, x, y⟩ := C
    exact ⟨a, b, c, x, y.ew E⟩
theorem yRf.ew {l : Nat} {h h' : List va_E} {S : Nat → Int32} {F : Nat → Option Nat} {N : Nat → Int32} {R : kR} (E : eW (okV l) h h') (C : yRf l h S F N R) : yRf l h' S F N R := fun c q hq => by
  obtain ⟨a, b, e⟩ := C c q hq
  exact ⟨a, b, fun i t ht => (e i t ht).ew E⟩
theorem yR.ew {l : Nat} {h h' : List va_E} {a : Nat} {R : kR} (E : eW (okL l) h h') (C : yR l h a R) : yR l h' a R := by
  obtain ⟨sg, ve, ts, S, F, N, a1, a2, a3, a4, a5, a6⟩ := C
  exact ⟨sg, ve, ts, S, F, N, E.c a1 (Or.inr (Or.inl rfl)), E.c a2 (Or.inr (Or.inl ⟨rfl, Or.inr (Or.inl rfl)⟩)), E.c a3 (Or.inr (Or.inr (Or.inl rfl))), E.c a4 (Or.inr (Or.inl ⟨rfl, Or.inr (Or.inr rfl)⟩)), a5, a6.ew (E.mo okV_L)⟩
theorem yVl.mo {l l' : Nat} {h : List va_E} {a : Nat} {v : kV} (hl : l' ≤ l) (C : yVl l h a v) : yVl l' h a v := by
  obtain ⟨C1, na, ma, x, c, hm⟩ := C
  exact ⟨C1, na, ma, x, c, Nat.le_trans hl hm⟩
theorem yR.mo {l l' : Nat} {h : List va_E} {a : Nat} {R : kR} (hl : l' ≤ l) (C : yR l h a R) : yR l' h a R := by
  obtain ⟨sg, ve, ts, S, F, N, a1, a2, a3, a4, a5, a6⟩ := C
  refine ⟨sg, ve, ts, S, F, N, a1, a2, a3, a4, a5, fun c q hq => ?_⟩
  obtain ⟨a, b, e⟩ := a6 c q hq
  refine ⟨a, b, fun i t ht => ?_⟩
  have := e i t ht
  cases t with
  | none => exact this
  | some g =>
    obtain ⟨x1, x2, x3, x4, x5⟩ := this
    exact ⟨x1, x2, x3, x4, x5.mo hl⟩

