/-! THE REFERENCE, 10: ranges. -/
def yT (l : Nat) (h : List va_E) (s : Int32) (f : Option Nat) (t : kT) : Prop := match t with
  | none => s = nI 0 ∧ f = none
  | some (g, v) => s = nI g ∧ (1 ≤ g ∧ g ≤ 7) ∧ ∃ b, f = some b ∧ yVl l h b v
def yRf (l : Nat) (h : List va_E) (S : Nat → Int32) (F : Nat → Option Nat) (N : Nat → Int32) (R : kR) : Prop := ∀ (c : Nat) q, R[c]? = some q → N c = nI q.length ∧ q.length ≤ 4 ∧ ∀ (i : Nat) t, q[i]? = some t → yT l h (S (4 * c + i)) (F (4 * c + i)) t
/-- a Range of the reference -/
def yR (l : Nat) (h : List va_E) (a : Nat) (R : kR) : Prop := ∃ (sg ve ts : Nat) (S : Nat → Int32) (F : Nat → Option Nat) (N : Nat → Int32), z_ h a (.inr (16, [.ref sg, .ref ve, .ref ts, .int (nI R.length)])) ∧ z_ h sg (.inl (2, 16, .inl S)) ∧ z_ h ve (.inl (13, 16, .inr (.inr (.inr (.inr F))))) ∧ z_ h ts (.inl (2, 4, .inl N)) ∧ R.length ≤ 4 ∧ yRf l h S F N R
theorem yVl.ex {l : Nat} {h h' : List va_E} {a : Nat} {v : kV} (E : ex_ h h') (C : yVl l h a v) : yVl l h' a v := by
  obtain ⟨C1, na, ma, x, c, hl⟩ := C
  have C2 := C1
  obtain ⟨na2, ma2, N, F, a1, -⟩ := C2
  exact ⟨C1.ex E, na, ma, x, (E _ _ ⟨a1.1, c⟩).2, hl⟩
theorem yT.ex {l : Nat} {h h' : List va_E} {s : Int32} {f : Option Nat} {t : kT} (E : ex_ h h') (C : yT l h s f t) : yT l h' s f t := by
  cases t with
  | none => exact C
  | some e =>
    obtain ⟨a, b, c, x, y⟩ := C
    exact ⟨a, b, c, x, y.ex E⟩
theorem yRf.ex {l : Nat} {h h' : List va_E} {S : Nat → Int32} {F : Nat → Option Nat} {N : Nat → Int32} {R : kR} (E : ex_ h h') (C : yRf l h S F N R) : yRf l h' S F N R := fun c q hq => by
  obtain ⟨a, b, e⟩ := C c q hq
  exact ⟨a, b, fun i t ht => (e i t ht).ex E⟩
theorem yR.ex {l : Nat} {h h' : List va_E} {a : Nat} {R : kR} (E : ex_ h h') (C : yR l h a R) : yR l h' a R := by
  obtain ⟨sg, ve, ts, S, F, N, a1, a2, a3, a4, a5, a6⟩ := C
  exact ⟨sg, ve, ts, S, F, N, E _ _ a1, E _ _ a2, E _ _ a3, E _ _ a4, a5, a6.ex E⟩
section MK
variable {X : Nat × (Nat → Int32)} {d : Nat} {h : List va_E} {Q : Option Value → List va_E → Prop} {u : kV} {R : kR} {aa ra l : Nat}
theorem m_in2 (A : yV h aa u) (B : yR l h ra R) (c : Nat) (q : List kT) (hc : R[c]? = some q) (j : Nat) (hj : j ≤ q.length) (k : rt_ X (d + 9) 161 69 [some (.ref aa), some (.ref ra), some (.int (nI c)), some (.int (tB (∀ t ∈ q, tP u t = true))), some (.int (nI (4 * c + q.length)))] [] h Q) : rt_ X (d + 9) 161 17 [some (.ref aa), some (.ref ra), some (.int (nI c)), some (.int (tB (∀ t ∈ q.take j, tP u t = true))), some (.int (nI (4 * c + j)))] [] h Q := by
  obtain ⟨sg, ve, ts, S, F, N, ⟨-, a1⟩, ⟨-, a2⟩, ⟨-, a3⟩, ⟨-, a4⟩, a5, a6⟩ := id B
  obtain ⟨n1, n2, n3⟩ := a6 c q hc
  have lc := gt_lt hc
  refine rt_k (k := 3) (pc' := 21) (L' := [some (.ref aa), some (.ref ra), some (.int (nI c)), some (.int (tB (∀ t ∈ q.take j, tP u t = true))), some (.int (nI (4 * c + j)))]) (st' := [.int (nI c), .int (nI 4), .int (nI (4 * c + j))]) (h' := h) (fun _ => rfl) ?_
  refine rt_mul rfl ?_
  refine rt_k (k := 1) (pc' := 23) (L' := [some (.ref aa), some (.ref ra), some (.int (nI c)), some (.int (tB (∀ t ∈ q.take j, tP u t = true))), some (.int (nI (4 * c + j)))]) (st' := [.ref ra, .int (nI (4 * c)), .int (nI (4 * c + j))]) (h' := h) (fun _ => rfl) ?_
  refine rt_gf rfl a1 rfl rfl ?_
  refine rt_k (k := 1) (pc' := 27) (L' := [some (.ref aa), some (.ref ra), some (.int (nI c)), some (.int (tB (∀ t ∈ q.take j, tP u t = true))), some (.int (nI (4 * c + j)))]) (st' := [.int (nI c), .ref ts, .int (nI (4 * c)), .int (nI (4 * c + j))]) (h' := h) (fun _ => rfl) ?_
  refine rt_ialN rfl a4 rfl (by omega) (by decide) n1 ?_
  refine rt_add rfl ?_
  refine rt_ige rfl (by omega) (by omega) (fun z => ?_) (fun z => ?_)
  ·
    have e : j = q.length := by omega
    rw [e, List.take_length]
    exact k
  have z' : j < q.length := by omega
  obtain ⟨t, ht⟩ := gt_ex z'
  have T := n3 j t ht
  have et : (∀ x ∈ q.take (j + 1), tP u x = true) ↔ (∀ x ∈ q.take j, tP u x = true) ∧ tP u t = true := by
    rw [take_sn ht]
    constructor
    · intro y; exact ⟨fun x hx => y x (List.mem_append.mpr (Or.inl hx)), y t (List.mem_append.mpr (Or.inr (List.mem_singleton.mpr rfl)))⟩
    · rintro ⟨y1, y2⟩ x hx
      rcases List.mem_append.mp hx with w | w
      · exact y1 x w
      · rw [List.mem_singleton.mp w]; exact y2
  have again : ∀ (p : Prop), (p ↔ ∀ x ∈ q.take (j + 1), tP u x = true) → rt_ X (d + 9) 161 62 [some (.ref aa), some (.ref ra), some (.int (nI c)), some (.int (tB (∀ t ∈ q.take j, tP u t = true))), some (.int (nI (4 * c + j)))] [.int (tB p)] h Q := fun p hp => by
    rw [tB_iff hp]
    refine rt_k (k := 1) (pc' := 63) (L' := [some (.ref aa), some (.ref ra), some (.int (nI c)), some (.int (tB (∀ t ∈ q.take (j + 1), tP u t = true))), some (.int (nI (4 * c + j)))]) (st' := []) (h' := h) (fun _ => rfl) ?_
    refine rt_inc (c := 1) rfl rfl ?_
    refine rt_k (k := 1) (pc' := 17) (L' := [some (.ref aa), some (.ref ra), some (.int (nI c)), some (.int (tB (∀ t ∈ q.take (j + 1), tP u t = true))), some (.int (nI ((4 * c + j) + 1)))]) (st' := []) (h' := h) (fun _ => rfl) ?_
    exact m_in2 A B c q hc (j + 1) z' k
  have no : ¬ (∀ x ∈ q.take (j + 1), tP u x = true) → rt_ X (d + 9) 161 61 [some (.ref aa), some (.ref ra), some (.int (nI c)), some (.int (tB (∀ t ∈ q.take j, tP u t = true))), some (.int (nI (4 * c + j)))] [] h Q := fun w => by
    refine rt_n rfl ?_
    have := again False ⟨fun q => absurd q id, fun q => w q⟩
    rw [tB_f id] at this
    exact this
  refine rt_k (k := 1) (pc' := 33) (L' := [some (.ref aa), some (.ref ra), some (.int (nI c)), some (.int (tB (∀ t ∈ q.take j, tP u t = true))), some (.int (nI (4 * c + j)))]) (st' := [.int (tB (∀ t ∈ q.take j, tP u t = true))]) (h' := h) (fun _ => rfl) ?_
  refine rt_pe rfl (fun y => ?_) (fun y => ?_)
  ·
    exact no (fun w => y (et.mp w).1)
  have fin : rt_ X (d + 9) 161 54 [some (.ref aa), some (.ref ra), some (.int (nI c)), some (.int (tB (∀ t ∈ q.take j, tP u t = true))), some (.int (nI (4 * c + j)))] [.int (tB (tP u t = true))] h Q := by
    refine rt_pe rfl (fun w => ?_) (fun w => ?_)
    ·
      exact no (fun w2 => w (et.mp w2).2)
    have := again True ⟨fun _ => et.mpr ⟨y, w⟩, fun _ => trivial⟩
    rw [tB_t trivial] at this
    refine rt_n rfl (rt_n rfl ?_)
    exact this
  cases t with
  | none =>
    obtain ⟨t1, t2⟩ := T
    refine rt_k (k := 1) (pc' := 37) (L' := [some (.ref aa), some (.ref ra), some (.int (nI c)), some (.int (tB (∀ t ∈ q.take j, tP u t = true))), some (.int (nI (4 * c + j)))]) (st' := [.ref ra]) (h' := h) (fun _ => rfl) ?_
    refine rt_gf rfl a1 rfl rfl ?_
    refine rt_k (k := 1) (pc' := 42) (L' := [some (.ref aa), some (.ref ra), some (.int (nI c)), some (.int (tB (∀ t ∈ q.take j, tP u t = true))), some (.int (nI (4 * c + j)))]) (st' := [.int (nI (4 * c + j)), .ref sg]) (h' := h) (fun _ => rfl) ?_
    refine rt_ialN rfl a2 rfl (by omega) (by decide) t1 ?_
    refine rt_k (k := 2) (pc' := 45) (L' := [some (.ref aa), some (.ref ra), some (.int (nI c)), some (.int (tB (∀ t ∈ q.take j, tP u t = true))), some (.int (nI (4 * c + j)))]) (st' := [.ref ra, .ref aa, .int (nI 0)]) (h' := h) (fun _ => rfl) ?_
    refine rt_gf rfl a1 rfl rfl ?_
    refine rt_k (k := 1) (pc' := 50) (L' := [some (.ref aa), some (.ref ra), some (.int (nI c)), some (.int (tB (∀ t ∈ q.take j, tP u t = true))), some (.int (nI (4 * c + j)))]) (st' := [.int (nI (4 * c + j)), .ref ve, .ref aa, .int (nI 0)]) (h' := h) (fun _ => rfl) ?_
    refine rt_aalO rfl a3 rfl (by omega) (by decide) t2 ?_
    refine rt_cE rfl rfl (m_test0 (u := u) .null) ?_
    exact fin
  | some e =>
    obtain ⟨g, v⟩ := e
    obtain ⟨t1, t2, b, t3, t4⟩ := T
    refine rt_k (k := 1) (pc' := 37) (L' := [some (.ref aa), some (.ref ra), some (.int (nI c)), some (.int (tB (∀ t ∈ q.take j, tP u t = true))), some (.int (nI (4 * c + j)))]) (st' := [.ref ra]) (h' := h) (fun _ => rfl) ?_
    refine rt_gf rfl a1 rfl rfl ?_
    refine rt_k (k := 1) (pc' := 42) (L' := [some (.ref aa), some (.ref ra), some (.int (nI c)), some (.int (tB (∀ t ∈ q.take j, tP u t = true))), some (.int (nI (4 * c + j)))]) (st' := [.int (nI (4 * c + j)), .ref sg]) (h' := h) (fun _ => rfl) ?_
    refine rt_ialN rfl a2 rfl (by omega) (by decide) t1 ?_
    refine rt_k (k := 2) (pc' := 45) (L' := [some (.ref aa), some (.ref ra), some (.int (nI c)), some (.int (tB (∀ t ∈ q.take j, tP u t = true))), some (.int (nI (4 * c + j)))]) (st' := [.ref ra, .ref aa, .int (nI g)]) (h' := h) (fun _ => rfl) ?_
    refine rt_gf rfl a1 rfl rfl ?_
    refine rt_k (k := 1) (pc' := 50) (L' := [some (.ref aa), some (.ref ra), some (.int (nI c)), some (.int (tB (∀ t ∈ q.take j, tP u t = true))), some (.int (nI (4 * c + j)))]) (st' := [.int (nI (4 * c + j)), .ref ve, .ref aa, .int (nI g)]) (h' := h) (fun _ => rfl) ?_
    refine rt_aalN rfl a3 rfl (by omega) (by decide) t3 ?_
    refine rt_cE rfl rfl (m_test A t4.1 g t2) ?_
    exact fin
termination_by q.length - j
theorem m_in1 (A : yV h aa u) (B : yR l h ra R) (c : Nat) (hc : c ≤ R.length) (H : ∀ (j : Nat) q, j < c → R[j]? = some q → ¬ ∀ t ∈ q, tP u t = true) (x3 x4 : Option Value) : rt_ X (d + 9) 161 2 [some (.ref aa), some (.ref ra), some (.int (nI c)), x3, x4] [] h (fun r h' => r = some (.int (tB (rP u R))) ∧ h' = h) := by
  obtain ⟨sg, ve, ts, S, F, N, ⟨-, a1⟩, ⟨-, a2⟩, ⟨-, a3⟩, ⟨-, a4⟩, a5, a6⟩ := id B
  refine rt_k (k := 2) (pc' := 4) (L' := [some (.ref aa), some (.ref ra), some (.int (nI c)), x3, x4]) (st' := [.ref ra, .int (nI c)]) (h' := h) (fun _ => by first | rfl | (cases x3 <;> rfl) | (cases x4 <;> rfl)) ?_
  refine rt_gf rfl a1 rfl rfl ?_
  refine rt_ige rfl (by omega) (by omega) (fun z => ?_) (fun z => ?_)
  ·
    refine rt_k (k := 1) (pc' := 82) (L' := [some (.ref aa), some (.ref ra), some (.int (nI c)), x3, x4]) (st' := [.int (nI 0)]) (h' := h) (fun _ => by first | rfl | (cases x3 <;> rfl) | (cases x4 <;> rfl)) ?_
    exact rt_r (v := some (.int (nI 0))) rfl rfl (⟨ret0 (fun ⟨q, hq, y⟩ => by obtain ⟨j, hj⟩ := gt_mem hq; exact H j q (by have := gt_lt hj; omega) hj y), rfl⟩)
  obtain ⟨q, hq⟩ := gt_ex z
  refine rt_k (k := 2) (pc' := 12) (L' := [some (.ref aa), some (.ref ra), some (.int (nI c)), some (.int (nI 1)), x4]) (st' := []) (h' := h) (fun _ => by first | rfl | (cases x3 <;> rfl)) ?_
  refine rt_k (k := 2) (pc' := 14) (L' := [some (.ref aa), some (.ref ra), some (.int (nI c)), some (.int (nI 1)), x4]) (st' := [.int (nI c), .int (nI 4)]) (h' := h) (fun _ => by first | rfl | (cases x4 <;> rfl)) ?_
  refine rt_mul rfl ?_
  refine rt_k (k := 1) (pc' := 17) (L' := [some (.ref aa), some (.ref ra), some (.int (nI c)), some (.int (nI 1)), some (.int (nI (4 * c)))]) (st' := []) (h' := h) (fun _ => by first | rfl | (cases x4 <;> rfl)) ?_
  have e0 : tB (∀ t ∈ q.take 0, tP u t = true) = nI 1 := by rw [tB_t (fun t ht => by simp at ht)]; rfl
  rw [← e0]
  refine m_in2 A B c q hq 0 (Nat.zero_le _) ?_
  refine rt_k (k := 1) (pc' := 70) (L' := [some (.ref aa), some (.ref ra), some (.int (nI c)), some (.int (tB (∀ t ∈ q, tP u t = true))), some (.int (nI (4 * c + q.length)))]) (st' := [.int (tB (∀ t ∈ q, tP u t = true))]) (h' := h) (fun _ => rfl) ?_
  refine rt_pe rfl (fun y => ?_) (fun y => ?_)
  rotate_left
  ·
    refine rt_k (k := 1) (pc' := 74) (L' := [some (.ref aa), some (.ref ra), some (.int (nI c)), some (.int (tB (∀ t ∈ q, tP u t = true))), some (.int (nI (4 * c + q.length)))]) (st' := [.int (nI 1)]) (h' := h) (fun _ => rfl) ?_
    exact rt_r (v := some (.int (nI 1))) rfl rfl (⟨ret1 ⟨q, gt_in hq, y⟩, rfl⟩)
  refine rt_inc (c := 1) rfl rfl ?_
  refine rt_k (k := 1) (pc' := 2) (L' := [some (.ref aa), some (.ref ra), some (.int (nI (c + 1))), some (.int (tB (∀ t ∈ q, tP u t = true))), some (.int (nI (4 * c + q.length)))]) (st' := []) (h' := h) (fun _ => rfl) ?_
  exact m_in1 A B (c + 1) z (fun j q' hj hq' => by
    by_cases w : j = c
    · subst w; rw [hq] at hq'; cases hq'; exact y
    · exact H j q' (by omega) hq') _ _
termination_by R.length - c
theorem m_in (A : yV h aa u) (B : yR l h ra R) : rt_ X (d + 9) 161 0 [some (.ref aa), some (.ref ra), none, none, none] [] h (fun r h' => r = some (.int (tB (rP u R))) ∧ h' = h) := by
  refine rt_k (k := 2) (pc' := 2) (L' := [some (.ref aa), some (.ref ra), some (.int (nI 0)), none, none]) (st' := []) (h' := h) (fun _ => rfl) ?_
  exact m_in1 A B 0 (Nat.zero_le _) (fun j q hj => absurd hj (Nat.not_lt_zero _)) _ _
end MK

