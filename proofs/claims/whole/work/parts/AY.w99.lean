/-! THE REFERENCE, 34: arranged. -/
theorem vbT (p : Prop) : vp_nar .boolean (tB p) = tB p := by
  by_cases q : p
  · rw [← tF1 q]; exact vb1
  · rw [← tF0 q]; exact vb0
theorem gr_w {A : Nat → Prop} {c s : Nat} {h0 h h' : List va_E} (G : gr (fun _ => False) c s h0 h) (F : fr_ A h h') (hA : ∀ k, A k → h0.length ≤ k) : gr (fun _ => False) c s h0 h' := gr_lo G (gr_fr F) hA
theorem yS.g {ad : Nat → Nat} {sa : Nat} {F : Nat → Option Nat} {S : List kL} {h0 h : List va_E} {c s : Nat} (C : yS h0 ad sa F S) (l : sa < h0.length) (G : gr (fun _ => False) c s h0 h) : yS h ad sa F S := ⟨(G.2.2.2 sa l id).trans C.1, C.2.1, C.2.2.ex (gr_ex G (fun _ _ => id))⟩
def fRx (S : List kL) (f : Nat → Int32) (m : Nat) : Prop := ∀ a b, a < S.length → b < S.length → f (8 * a + b) = tB (Rx S m a b)
section NJ
variable {X : Nat × (Nat → Int32)} {d : Nat} {h : List va_E} {Q : Option Value → List va_E → Prop} {ad : Nat → Nat} {J : List kL} {D : kD} {x y z md kc gn sp nc bc kn : Int32}
variable {sa ra : Nat} {F : Nat → Option Nat} {S : List kL}
/-- what needs what -/
theorem m_ag1 {h0 : List va_E} {c0 s0 : Nat} (CS0 : yS h0 ad sa F S) (lsa : sa < h0.length) (lra : h0.length ≤ ra) {i : Nat} (ok : ∀ r ∈ S, okQ r) (hi : i < S.length) (x6 x7 x8 x9 x10 : Option Value) (k : ∀ (h' : List va_E) (f : Nat → Int32) y5, gr (fun _ => False) c0 s0 h0 h' → h'[ra]? = some (.inl (4, 64, .inl f)) → (∀ a b, a < S.length → b < S.length → a < i + 1 → f (8 * a + b) = tB (Rx S 0 a b)) → rt_ X (d + 3) 171 65 [some (.ref 23), some (.ref sa), some (.int (nI S.length)), some (.ref ra), some (.int (nI i)), y5, x6, x7, x8, x9, x10] [] h' Q) (j : Nat) (hj : j ≤ S.length) (h : List va_E) (G : gr (fun _ => False) c0 s0 h0 h) (f : Nat → Int32) (cr : h[ra]? = some (.inl (4, 64, .inl f))) (H : ∀ a b, a < S.length → b < S.length → (a < i ∨ (a = i ∧ b < j)) → f (8 * a + b) = tB (Rx S 0 a b)) : rt_ X (d + 3) 171 17 [some (.ref 23), some (.ref sa), some (.int (nI S.length)), some (.ref ra), some (.int (nI i)), some (.int (nI j)), x6, x7, x8, x9, x10] [] h Q := by
  obtain ⟨ca, h8, HS⟩ := id (CS0.g lsa G)
  refine rt_k (k := 2) (pc' := 20) (L' := [some (.ref 23), some (.ref sa), some (.int (nI S.length)), some (.ref ra), some (.int (nI i)), some (.int (nI j)), x6, x7, x8, x9, x10]) (st' := [.int (nI S.length), .int (nI j)]) (h' := h) (fun _ => by first | rfl | (cases x6 <;> rfl) | (cases x7 <;> rfl) | (cases x8 <;> rfl) | (cases x9 <;> rfl) | (cases x10 <;> rfl) | (cases x6 <;> cases x7 <;> cases x8 <;> cases x9 <;> cases x10 <;> rfl)) ?_
  refine rt_ige rfl (by omega) (by omega) (fun z0 => ?_) (fun z0 => ?_)
  ·
    exact k h f _ G cr (fun a b ha hb q => H a b ha hb (by omega))
  obtain ⟨r, hr⟩ := gt_ex hi
  obtain ⟨s, hs⟩ := gt_ex z0
  obtain ⟨fr, Yr⟩ := HS i r hr
  obtain ⟨fs, Ys⟩ := HS j s hs
  have fin : ∀ c, c = tB (Rx S 0 i j) → rt_ X (d + 3) 171 58 [some (.ref 23), some (.ref sa), some (.int (nI S.length)), some (.ref ra), some (.int (nI i)), some (.int (nI j)), x6, x7, x8, x9, x10] [.int c, .int (nI (8 * i + j)), .ref ra] h Q := fun c hc => by
    subst hc
    refine rt_zasN rfl cr rfl (by omega) (by decide) ?_
    refine rt_nm (fun h_1 e_2 => ?_)
    have f_3 : fr_ (fun z => z = ra) h h_1 := by rw [e_2]; exact fr_set (e' := .inl (4, 64, .inl (upd f (8 * i + j) (vp_nar .boolean (tB (Rx S 0 i j)))))) cr (by rfl) (by first | decide | simp)
    have n_4 : h_1.length = h.length := by rw [e_2]; simp
    have c_5 : h_1[ra]? = some (.inl (4, 64, .inl (upd f (8 * i + j) (vp_nar .boolean (tB (Rx S 0 i j)))))) := by rw [e_2]; exact hs_self cr
    refine rt_inc (c := 1) rfl rfl ?_
    refine rt_k (k := 1) (pc' := 17) (L' := [some (.ref 23), some (.ref sa), some (.int (nI S.length)), some (.ref ra), some (.int (nI i)), some (.int (nI (j + 1))), x6, x7, x8, x9, x10]) (st' := []) (h' := h_1) (fun _ => by first | rfl | (cases x6 <;> rfl) | (cases x7 <;> rfl) | (cases x8 <;> rfl) | (cases x9 <;> rfl) | (cases x10 <;> rfl) | (cases x6 <;> cases x7 <;> cases x8 <;> cases x9 <;> cases x10 <;> rfl)) ?_
    have FF := f_3
    have kr := c_5
    refine m_ag1 CS0 lsa lra ok hi x6 x7 x8 x9 x10 k (j + 1) z0 _ (gr_w G FF (fun k q => by omega)) _ kr (fun a b ha hb q => ?_)
    unfold upd
    by_cases y : 8 * a + b = 8 * i + j
    · have ea : a = i := by omega
      have eb : b = j := by omega
      rw [if_pos y, vbT, ea, eb]
    · rw [if_neg y]
      exact H a b ha hb (by omega)
  refine rt_k (k := 3) (pc' := 28) (L' := [some (.ref 23), some (.ref sa), some (.int (nI S.length)), some (.ref ra), some (.int (nI i)), some (.int (nI j)), x6, x7, x8, x9, x10]) (st' := [.int (nI i), .int (nI 8), .ref ra]) (h' := h) (fun _ => by first | rfl | (cases x6 <;> rfl) | (cases x7 <;> rfl) | (cases x8 <;> rfl) | (cases x9 <;> rfl) | (cases x10 <;> rfl) | (cases x6 <;> cases x7 <;> cases x8 <;> cases x9 <;> cases x10 <;> rfl)) ?_
  refine rt_mul rfl ?_
  refine rt_k (k := 1) (pc' := 31) (L' := [some (.ref 23), some (.ref sa), some (.int (nI S.length)), some (.ref ra), some (.int (nI i)), some (.int (nI j)), x6, x7, x8, x9, x10]) (st' := [.int (nI j), .int (nI (8 * i)), .ref ra]) (h' := h) (fun _ => by first | rfl | (cases x6 <;> rfl) | (cases x7 <;> rfl) | (cases x8 <;> rfl) | (cases x9 <;> rfl) | (cases x10 <;> rfl) | (cases x6 <;> cases x7 <;> cases x8 <;> cases x9 <;> cases x10 <;> rfl)) ?_
  refine rt_add rfl ?_
  refine rt_k (k := 2) (pc' := 36) (L' := [some (.ref 23), some (.ref sa), some (.int (nI S.length)), some (.ref ra), some (.int (nI i)), some (.int (nI j)), x6, x7, x8, x9, x10]) (st' := [.int (nI j), .int (nI i), .int (nI ((8 * i) + j)), .ref ra]) (h' := h) (fun _ => by first | rfl | (cases x6 <;> rfl) | (cases x7 <;> rfl) | (cases x8 <;> rfl) | (cases x9 <;> rfl) | (cases x10 <;> rfl) | (cases x6 <;> cases x7 <;> cases x8 <;> cases x9 <;> cases x10 <;> rfl)) ?_
  refine rt_ieq rfl (by omega) (by omega) (fun z1 => ?_) (fun z1 => ?_)
  rotate_left
  ·
    refine rt_k (k := 2) (pc' := 42) (L' := [some (.ref 23), some (.ref sa), some (.int (nI S.length)), some (.ref ra), some (.int (nI i)), some (.int (nI j)), x6, x7, x8, x9, x10]) (st' := [.int (nI i), .ref sa, .int (nI ((8 * i) + j)), .ref ra]) (h' := h) (fun _ => by first | rfl | (cases x6 <;> rfl) | (cases x7 <;> rfl) | (cases x8 <;> rfl) | (cases x9 <;> rfl) | (cases x10 <;> rfl) | (cases x6 <;> cases x7 <;> cases x8 <;> cases x9 <;> cases x10 <;> rfl)) ?_
    refine rt_aalN rfl ca rfl (by omega) (by decide) fr ?_
    refine rt_k (k := 2) (pc' := 46) (L' := [some (.ref 23), some (.ref sa), some (.int (nI S.length)), some (.ref ra), some (.int (nI i)), some (.int (nI j)), x6, x7, x8, x9, x10]) (st' := [.int (nI j), .ref sa, .ref (ad (lNo r)), .int (nI (8 * i + j)), .ref ra]) (h' := h) (fun _ => by first | rfl | (cases x6 <;> rfl) | (cases x7 <;> rfl) | (cases x8 <;> rfl) | (cases x9 <;> rfl) | (cases x10 <;> rfl) | (cases x6 <;> cases x7 <;> cases x8 <;> cases x9 <;> cases x10 <;> rfl)) ?_
    refine rt_aalN rfl ca rfl (by omega) (by decide) fs ?_
    refine rt_cE rfl rfl (m_needs (d := d) Yr Ys) ?_
    have e0 : (∃ e ∈ lNe r, e.1 = lNm s) ↔ Rx S 0 i j := by
      rw [← nd_w ok hr hs]
      exact ⟨Or.inr, fun q => q.elim (fun q => absurd q z1) id⟩
    refine rt_pe rfl (fun z2 => ?_) (fun z2 => ?_)
    ·
      refine rt_k (k := 1) (pc' := 58) (L' := [some (.ref 23), some (.ref sa), some (.int (nI S.length)), some (.ref ra), some (.int (nI i)), some (.int (nI j)), x6, x7, x8, x9, x10]) (st' := [.int (nI 0), .int (nI (8 * i + j)), .ref ra]) (h' := h) (fun _ => by first | rfl | (cases x6 <;> rfl) | (cases x7 <;> rfl) | (cases x8 <;> rfl) | (cases x9 <;> rfl) | (cases x10 <;> rfl) | (cases x6 <;> cases x7 <;> cases x8 <;> cases x9 <;> cases x10 <;> rfl)) ?_
      exact fin _ (tF0 (fun q => z2 (e0.mpr q)))
    refine rt_k (k := 2) (pc' := 58) (L' := [some (.ref 23), some (.ref sa), some (.int (nI S.length)), some (.ref ra), some (.int (nI i)), some (.int (nI j)), x6, x7, x8, x9, x10]) (st' := [.int (nI 1), .int (nI (8 * i + j)), .ref ra]) (h' := h) (fun _ => by first | rfl | (cases x6 <;> rfl) | (cases x7 <;> rfl) | (cases x8 <;> rfl) | (cases x9 <;> rfl) | (cases x10 <;> rfl) | (cases x6 <;> cases x7 <;> cases x8 <;> cases x9 <;> cases x10 <;> rfl)) ?_
    exact fin _ (tF1 (e0.mp z2))
  refine rt_k (k := 2) (pc' := 58) (L' := [some (.ref 23), some (.ref sa), some (.int (nI S.length)), some (.ref ra), some (.int (nI i)), some (.int (nI j)), x6, x7, x8, x9, x10]) (st' := [.int (nI 1), .int (nI ((8 * i) + j)), .ref ra]) (h' := h) (fun _ => by first | rfl | (cases x6 <;> rfl) | (cases x7 <;> rfl) | (cases x8 <;> rfl) | (cases x9 <;> rfl) | (cases x10 <;> rfl) | (cases x6 <;> cases x7 <;> cases x8 <;> cases x9 <;> cases x10 <;> rfl)) ?_
  exact fin _ (tF1 (Or.inl z1))
termination_by S.length - j
theorem m_ag2 {h0 : List va_E} {c0 s0 : Nat} (CS0 : yS h0 ad sa F S) (lsa : sa < h0.length) (lra : h0.length ≤ ra) (ok : ∀ r ∈ S, okQ r) (x6 x7 x8 x9 x10 : Option Value) (k : ∀ (h' : List va_E) (f : Nat → Int32) y4 y5, gr (fun _ => False) c0 s0 h0 h' → h'[ra]? = some (.inl (4, 64, .inl f)) → fRx S f 0 → rt_ X (d + 3) 171 71 [some (.ref 23), some (.ref sa), some (.int (nI S.length)), some (.ref ra), y4, y5, x6, x7, x8, x9, x10] [] h' Q) (i : Nat) (hi : i ≤ S.length) (h : List va_E) (G : gr (fun _ => False) c0 s0 h0 h) (f : Nat → Int32) (cr : h[ra]? = some (.inl (4, 64, .inl f))) (H : ∀ a b, a < S.length → b < S.length → a < i → f (8 * a + b) = tB (Rx S 0 a b)) (x5 : Option Value) : rt_ X (d + 3) 171 8 [some (.ref 23), some (.ref sa), some (.int (nI S.length)), some (.ref ra), some (.int (nI i)), x5, x6, x7, x8, x9, x10] [] h Q := by
  have h8 := CS0.2.1
  refine rt_k (k := 2) (pc' := 11) (L' := [some (.ref 23), some (.ref sa), some (.int (nI S.length)), some (.ref ra), some (.int (nI i)), x5, x6, x7, x8, x9, x10]) (st' := [.int (nI S.length), .int (nI i)]) (h' := h) (fun _ => by first | rfl | (cases x5 <;> rfl) | (cases x6 <;> rfl) | (cases x7 <;> rfl) | (cases x8 <;> rfl) | (cases x9 <;> rfl) | (cases x10 <;> rfl) | (cases x5 <;> cases x6 <;> cases x7 <;> cases x8 <;> cases x9 <;> cases x10 <;> rfl)) ?_
  refine rt_ige rfl (by omega) (by omega) (fun z0 => ?_) (fun z0 => ?_)
  ·
    exact k h f _ _ G cr (fun a b ha hb => H a b ha hb (by omega))
  refine rt_k (k := 2) (pc' := 17) (L' := [some (.ref 23), some (.ref sa), some (.int (nI S.length)), some (.ref ra), some (.int (nI i)), some (.int (nI 0)), x6, x7, x8, x9, x10]) (st' := []) (h' := h) (fun _ => by first | rfl | (cases x5 <;> rfl) | (cases x6 <;> rfl) | (cases x7 <;> rfl) | (cases x8 <;> rfl) | (cases x9 <;> rfl) | (cases x10 <;> rfl) | (cases x5 <;> cases x6 <;> cases x7 <;> cases x8 <;> cases x9 <;> cases x10 <;> rfl)) ?_
  refine m_ag1 CS0 lsa lra ok z0 x6 x7 x8 x9 x10 (fun h' f' y5 G' cr' H' => ?_) 0 (Nat.zero_le _) h G f cr (fun a b ha hb q => H a b ha hb (by omega))
  refine rt_inc (c := 1) rfl rfl ?_
  refine rt_k (k := 1) (pc' := 8) (L' := [some (.ref 23), some (.ref sa), some (.int (nI S.length)), some (.ref ra), some (.int (nI (i + 1))), y5, x6, x7, x8, x9, x10]) (st' := []) (h' := h') (fun _ => by first | rfl | (cases y5 <;> rfl) | (cases x6 <;> rfl) | (cases x7 <;> rfl) | (cases x8 <;> rfl) | (cases x9 <;> rfl) | (cases x10 <;> rfl) | (cases y5 <;> cases x6 <;> cases x7 <;> cases x8 <;> cases x9 <;> cases x10 <;> rfl)) ?_
  exact m_ag2 CS0 lsa lra ok x6 x7 x8 x9 x10 k (i + 1) z0 h' G' f' cr' H' _
termination_by S.length - i
/-- over one in the middle -/
theorem m_ag3 {h0 : List va_E} {c0 s0 : Nat} (CS0 : yS h0 ad sa F S) (lsa : sa < h0.length) (lra : h0.length ≤ ra) {m i : Nat} (hm : m < S.length) (hi : i < S.length) (x7 x8 x9 x10 : Option Value) (k : ∀ (h' : List va_E) (f : Nat → Int32) (Z : Nat → Nat → Prop) y6, gr (fun _ => False) c0 s0 h0 h' → h'[ra]? = some (.inl (4, 64, .inl f)) → (∀ a b, a < S.length → b < S.length → f (8 * a + b) = tB (Z a b)) → (∀ a b, a < S.length → b < S.length → (a < i + 1 → (Z a b ↔ Rx S (m + 1) a b)) ∧ (¬ a < i + 1 → (Z a b ↔ Rx S m a b))) → rt_ X (d + 3) 171 141 [some (.ref 23), some (.ref sa), some (.int (nI S.length)), some (.ref ra), some (.int (nI m)), some (.int (nI i)), y6, x7, x8, x9, x10] [] h' Q) (j : Nat) (hj : j ≤ S.length) (h : List va_E) (G : gr (fun _ => False) c0 s0 h0 h) (f : Nat → Int32) (cr : h[ra]? = some (.inl (4, 64, .inl f))) (Z : Nat → Nat → Prop) (H : ∀ a b, a < S.length → b < S.length → f (8 * a + b) = tB (Z a b)) (HZ : ∀ a b, a < S.length → b < S.length → ((a < i ∨ (a = i ∧ b < j)) → (Z a b ↔ Rx S (m + 1) a b)) ∧ (¬ (a < i ∨ (a = i ∧ b < j)) → (Z a b ↔ Rx S m a b))) : rt_ X (d + 3) 171 92 [some (.ref 23), some (.ref sa), some (.int (nI S.length)), some (.ref ra), some (.int (nI m)), some (.int (nI i)), some (.int (nI j)), x7, x8, x9, x10] [] h Q := by
  have h8 := CS0.2.1
  refine rt_k (k := 2) (pc' := 95) (L' := [some (.ref 23), some (.ref sa), some (.int (nI S.length)), some (.ref ra), some (.int (nI m)), some (.int (nI i)), some (.int (nI j)), x7, x8, x9, x10]) (st' := [.int (nI S.length), .int (nI j)]) (h' := h) (fun _ => by first | rfl | (cases x7 <;> rfl) | (cases x8 <;> rfl) | (cases x9 <;> rfl) | (cases x10 <;> rfl) | (cases x7 <;> cases x8 <;> cases x9 <;> cases x10 <;> rfl)) ?_
  refine rt_ige rfl (by omega) (by omega) (fun z0 => ?_) (fun z0 => ?_)
  ·
    exact k h f Z _ G cr H (fun a b ha hb => ⟨fun q => (HZ a b ha hb).1 (by omega), fun q => (HZ a b ha hb).2 (by omega)⟩)
  have zim : Z i m ↔ Rx S m i m := by
    by_cases q : i < i ∨ (i = i ∧ m < j)
    · rw [(HZ i m hi hm).1 q, Rx_c]
    · exact (HZ i m hi hm).2 q
  have zmj : Z m j ↔ Rx S m m j := by
    by_cases q : m < i ∨ (m = i ∧ j < j)
    · rw [(HZ m j hm z0).1 q, Rx_r]
    · exact (HZ m j hm z0).2 q
  have zij : Z i j ↔ Rx S m i j := (HZ i j hi z0).2 (by omega)
  have g1 := H i m hi hm
  have g2 := H m j hm z0
  have nxt : ∀ (h' : List va_E) (f' : Nat → Int32) (Z' : Nat → Nat → Prop), gr (fun _ => False) c0 s0 h0 h' → h'[ra]? = some (.inl (4, 64, .inl f')) → (∀ a b, a < S.length → b < S.length → f' (8 * a + b) = tB (Z' a b)) → (∀ a b, ¬ (a = i ∧ b = j) → (Z' a b ↔ Z a b)) → (Z' i j ↔ Rx S (m + 1) i j) → rt_ X (d + 3) 171 135 [some (.ref 23), some (.ref sa), some (.int (nI S.length)), some (.ref ra), some (.int (nI m)), some (.int (nI i)), some (.int (nI j)), x7, x8, x9, x10] [] h' Q := fun h' f' Z' G' cr' H' e1 e2 => by
    refine rt_inc (c := 1) rfl rfl ?_
    refine rt_k (k := 1) (pc' := 92) (L' := [some (.ref 23), some (.ref sa), some (.int (nI S.length)), some (.ref ra), some (.int (nI m)), some (.int (nI i)), some (.int (nI (j + 1))), x7, x8, x9, x10]) (st' := []) (h' := h') (fun _ => by first | rfl | (cases x7 <;> rfl) | (cases x8 <;> rfl) | (cases x9 <;> rfl) | (cases x10 <;> rfl) | (cases x7 <;> cases x8 <;> cases x9 <;> cases x10 <;> rfl)) ?_
    refine m_ag3 CS0 lsa lra hm hi x7 x8 x9 x10 k (j + 1) z0 h' G' f' cr' Z' H' (fun a b ha hb => ?_)
    by_cases q : a = i ∧ b = j
    · rw [q.1, q.2]
      exact ⟨fun _ => e2, fun y => absurd (Or.inr ⟨rfl, by omega⟩) y⟩
    · rw [e1 a b q]
      exact ⟨fun y => (HZ a b ha hb).1 (by omega), fun y => (HZ a b ha hb).2 (by omega)⟩
  refine rt_k (k := 3) (pc' := 103) (L' := [some (.ref 23), some (.ref sa), some (.int (nI S.length)), some (.ref ra), some (.int (nI m)), some (.int (nI i)), some (.int (nI j)), x7, x8, x9, x10]) (st' := [.int (nI i), .int (nI 8), .ref ra]) (h' := h) (fun _ => by first | rfl | (cases x7 <;> rfl) | (cases x8 <;> rfl) | (cases x9 <;> rfl) | (cases x10 <;> rfl) | (cases x7 <;> cases x8 <;> cases x9 <;> cases x10 <;> rfl)) ?_
  refine rt_mul rfl ?_
  refine rt_k (k := 1) (pc' := 106) (L' := [some (.ref 23), some (.ref sa), some (.int (nI S.length)), some (.ref ra), some (.int (nI m)), some (.int (nI i)), some (.int (nI j)), x7, x8, x9, x10]) (st' := [.int (nI m), .int (nI (8 * i)), .ref ra]) (h' := h) (fun _ => by first | rfl | (cases x7 <;> rfl) | (cases x8 <;> rfl) | (cases x9 <;> rfl) | (cases x10 <;> rfl) | (cases x7 <;> cases x8 <;> cases x9 <;> cases x10 <;> rfl)) ?_
  refine rt_add rfl ?_
  refine rt_zalN rfl cr rfl (by omega) (by decide) g1 ?_
  refine rt_pe rfl (fun z1 => ?_) (fun z1 => ?_)
  rotate_left
  ·
    refine rt_k (k := 3) (pc' := 116) (L' := [some (.ref 23), some (.ref sa), some (.int (nI S.length)), some (.ref ra), some (.int (nI m)), some (.int (nI i)), some (.int (nI j)), x7, x8, x9, x10]) (st' := [.int (nI m), .int (nI 8), .ref ra]) (h' := h) (fun _ => by first | rfl | (cases x7 <;> rfl) | (cases x8 <;> rfl) | (cases x9 <;> rfl) | (cases x10 <;> rfl) | (cases x7 <;> cases x8 <;> cases x9 <;> cases x10 <;> rfl)) ?_
    refine rt_mul rfl ?_
    refine rt_k (k := 1) (pc' := 119) (L' := [some (.ref 23), some (.ref sa), some (.int (nI S.length)), some (.ref ra), some (.int (nI m)), some (.int (nI i)), some (.int (nI j)), x7, x8, x9, x10]) (st' := [.int (nI j), .int (nI (8 * m)), .ref ra]) (h' := h) (fun _ => by first | rfl | (cases x7 <;> rfl) | (cases x8 <;> rfl) | (cases x9 <;> rfl) | (cases x10 <;> rfl) | (cases x7 <;> cases x8 <;> cases x9 <;> cases x10 <;> rfl)) ?_
    refine rt_add rfl ?_
    refine rt_zalN rfl cr rfl (by omega) (by decide) g2 ?_
    refine rt_pe rfl (fun z2 => ?_) (fun z2 => ?_)
    rotate_left
    ·
      refine rt_k (k := 3) (pc' := 129) (L' := [some (.ref 23), some (.ref sa), some (.int (nI S.length)), some (.ref ra), some (.int (nI m)), some (.int (nI i)), some (.int (nI j)), x7, x8, x9, x10]) (st' := [.int (nI i), .int (nI 8), .ref ra]) (h' := h) (fun _ => by first | rfl | (cases x7 <;> rfl) | (cases x8 <;> rfl) | (cases x9 <;> rfl) | (cases x10 <;> rfl) | (cases x7 <;> cases x8 <;> cases x9 <;> cases x10 <;> rfl)) ?_
      refine rt_mul rfl ?_
      refine rt_k (k := 1) (pc' := 132) (L' := [some (.ref 23), some (.ref sa), some (.int (nI S.length)), some (.ref ra), some (.int (nI m)), some (.int (nI i)), some (.int (nI j)), x7, x8, x9, x10]) (st' := [.int (nI j), .int (nI (8 * i)), .ref ra]) (h' := h) (fun _ => by first | rfl | (cases x7 <;> rfl) | (cases x8 <;> rfl) | (cases x9 <;> rfl) | (cases x10 <;> rfl) | (cases x7 <;> cases x8 <;> cases x9 <;> cases x10 <;> rfl)) ?_
      refine rt_add rfl ?_
      refine rt_k (k := 1) (pc' := 134) (L' := [some (.ref 23), some (.ref sa), some (.int (nI S.length)), some (.ref ra), some (.int (nI m)), some (.int (nI i)), some (.int (nI j)), x7, x8, x9, x10]) (st' := [.int (nI 1), .int (nI ((8 * i) + j)), .ref ra]) (h' := h) (fun _ => by first | rfl | (cases x7 <;> rfl) | (cases x8 <;> rfl) | (cases x9 <;> rfl) | (cases x10 <;> rfl) | (cases x7 <;> cases x8 <;> cases x9 <;> cases x10 <;> rfl)) ?_
      refine rt_zasN rfl cr rfl (by omega) (by decide) ?_
      refine rt_nm (fun h_6 e_7 => ?_)
      have f_8 : fr_ (fun z => z = ra) h h_6 := by rw [e_7]; exact fr_set (e' := .inl (4, 64, .inl (upd f ((8 * i) + j) (vp_nar .boolean (nI 1))))) cr (by rfl) (by first | decide | simp)
      have n_9 : h_6.length = h.length := by rw [e_7]; simp
      have c_10 : h_6[ra]? = some (.inl (4, 64, .inl (upd f ((8 * i) + j) (vp_nar .boolean (nI 1))))) := by rw [e_7]; exact hs_self cr
      have FF := f_8
      have kr := c_10
      refine nxt _ _ (fun a b => Z a b ∨ (a = i ∧ b = j)) (gr_w G FF (fun k q => by omega)) kr (fun a b ha hb => ?_) (fun a b q => ⟨fun y => y.elim id (fun y => absurd y q), Or.inl⟩) ⟨fun _ => Rx_s.mpr (Or.inr ⟨zim.mp z1, zmj.mp z2⟩), fun _ => Or.inr ⟨rfl, rfl⟩⟩
      unfold upd
      by_cases y : 8 * a + b = 8 * i + j
      · rw [if_pos y, vb1]
        exact tF1 (Or.inr ⟨by omega, by omega⟩)
      · rw [if_neg y, H a b ha hb]
        exact tB_c ⟨Or.inl, fun q => q.elim id (fun q => absurd (by rw [q.1, q.2]) y)⟩
    exact nxt h f Z G cr H (fun _ _ _ => Iff.rfl) (zij.trans ⟨fun q => Rx_s.mpr (Or.inl q), fun q => (Rx_s.mp q).elim id (fun q => absurd (zmj.mpr q.2) z2)⟩)
  exact nxt h f Z G cr H (fun _ _ _ => Iff.rfl) (zij.trans ⟨fun q => Rx_s.mpr (Or.inl q), fun q => (Rx_s.mp q).elim id (fun q => absurd (zim.mpr q.1) z1)⟩)
termination_by S.length - j
theorem m_ag4 {h0 : List va_E} {c0 s0 : Nat} (CS0 : yS h0 ad sa F S) (lsa : sa < h0.length) (lra : h0.length ≤ ra) {m : Nat} (hm : m < S.length) (x7 x8 x9 x10 : Option Value) (k : ∀ (h' : List va_E) (f : Nat → Int32) y5 y6, gr (fun _ => False) c0 s0 h0 h' → h'[ra]? = some (.inl (4, 64, .inl f)) → fRx S f (m + 1) → rt_ X (d + 3) 171 147 [some (.ref 23), some (.ref sa), some (.int (nI S.length)), some (.ref ra), some (.int (nI m)), y5, y6, x7, x8, x9, x10] [] h' Q) (i : Nat) (hi : i ≤ S.length) (h : List va_E) (G : gr (fun _ => False) c0 s0 h0 h) (f : Nat → Int32) (cr : h[ra]? = some (.inl (4, 64, .inl f))) (Z : Nat → Nat → Prop) (H : ∀ a b, a < S.length → b < S.length → f (8 * a + b) = tB (Z a b)) (HZ : ∀ a b, a < S.length → b < S.length → (a < i → (Z a b ↔ Rx S (m + 1) a b)) ∧ (¬ a < i → (Z a b ↔ Rx S m a b))) (x6 : Option Value) : rt_ X (d + 3) 171 83 [some (.ref 23), some (.ref sa), some (.int (nI S.length)), some (.ref ra), some (.int (nI m)), some (.int (nI i)), x6, x7, x8, x9, x10] [] h Q := by
  have h8 := CS0.2.1
  refine rt_k (k := 2) (pc' := 86) (L' := [some (.ref 23), some (.ref sa), some (.int (nI S.length)), some (.ref ra), some (.int (nI m)), some (.int (nI i)), x6, x7, x8, x9, x10]) (st' := [.int (nI S.length), .int (nI i)]) (h' := h) (fun _ => by first | rfl | (cases x6 <;> rfl) | (cases x7 <;> rfl) | (cases x8 <;> rfl) | (cases x9 <;> rfl) | (cases x10 <;> rfl) | (cases x6 <;> cases x7 <;> cases x8 <;> cases x9 <;> cases x10 <;> rfl)) ?_
  refine rt_ige rfl (by omega) (by omega) (fun z0 => ?_) (fun z0 => ?_)
  ·
    exact k h f _ _ G cr (fun a b ha hb => by rw [H a b ha hb]; exact tB_c ((HZ a b ha hb).1 (by omega)))
  refine rt_k (k := 2) (pc' := 92) (L' := [some (.ref 23), some (.ref sa), some (.int (nI S.length)), some (.ref ra), some (.int (nI m)), some (.int (nI i)), some (.int (nI 0)), x7, x8, x9, x10]) (st' := []) (h' := h) (fun _ => by first | rfl | (cases x6 <;> rfl) | (cases x7 <;> rfl) | (cases x8 <;> rfl) | (cases x9 <;> rfl) | (cases x10 <;> rfl) | (cases x6 <;> cases x7 <;> cases x8 <;> cases x9 <;> cases x10 <;> rfl)) ?_
  refine m_ag3 CS0 lsa lra hm z0 x7 x8 x9 x10 (fun h' f' Z' y6 G' cr' H' HZ' => ?_) 0 (Nat.zero_le _) h G f cr Z H (fun a b ha hb => ⟨fun q => (HZ a b ha hb).1 (by omega), fun q => (HZ a b ha hb).2 (by omega)⟩)
  refine rt_inc (c := 1) rfl rfl ?_
  refine rt_k (k := 1) (pc' := 83) (L' := [some (.ref 23), some (.ref sa), some (.int (nI S.length)), some (.ref ra), some (.int (nI m)), some (.int (nI (i + 1))), y6, x7, x8, x9, x10]) (st' := []) (h' := h') (fun _ => by first | rfl | (cases y6 <;> rfl) | (cases x7 <;> rfl) | (cases x8 <;> rfl) | (cases x9 <;> rfl) | (cases x10 <;> rfl) | (cases y6 <;> cases x7 <;> cases x8 <;> cases x9 <;> cases x10 <;> rfl)) ?_
  exact m_ag4 CS0 lsa lra hm x7 x8 x9 x10 k (i + 1) z0 h' G' f' cr' Z' H' HZ' _
termination_by S.length - i
theorem m_ag5 {h0 : List va_E} {c0 s0 : Nat} (CS0 : yS h0 ad sa F S) (lsa : sa < h0.length) (lra : h0.length ≤ ra) (x7 x8 x9 x10 : Option Value) (k : ∀ (h' : List va_E) (f : Nat → Int32) y4 y5 y6, gr (fun _ => False) c0 s0 h0 h' → h'[ra]? = some (.inl (4, 64, .inl f)) → fRx S f S.length → rt_ X (d + 3) 171 153 [some (.ref 23), some (.ref sa), some (.int (nI S.length)), some (.ref ra), y4, y5, y6, x7, x8, x9, x10] [] h' Q) (m : Nat) (hm : m ≤ S.length) (h : List va_E) (G : gr (fun _ => False) c0 s0 h0 h) (f : Nat → Int32) (cr : h[ra]? = some (.inl (4, 64, .inl f))) (H : fRx S f m) (x5 x6 : Option Value) : rt_ X (d + 3) 171 74 [some (.ref 23), some (.ref sa), some (.int (nI S.length)), some (.ref ra), some (.int (nI m)), x5, x6, x7, x8, x9, x10] [] h Q := by
  have h8 := CS0.2.1
  refine rt_k (k := 2) (pc' := 77) (L' := [some (.ref 23), some (.ref sa), some (.int (nI S.length)), some (.ref ra), some (.int (nI m)), x5, x6, x7, x8, x9, x10]) (st' := [.int (nI S.length), .int (nI m)]) (h' := h) (fun _ => by first | rfl | (cases x5 <;> rfl) | (cases x6 <;> rfl) | (cases x7 <;> rfl) | (cases x8 <;> rfl) | (cases x9 <;> rfl) | (cases x10 <;> rfl) | (cases x5 <;> cases x6 <;> cases x7 <;> cases x8 <;> cases x9 <;> cases x10 <;> rfl)) ?_
  refine rt_ige rfl (by omega) (by omega) (fun z0 => ?_) (fun z0 => ?_)
  ·
    have e : m = S.length := by omega
    rw [e] at H
    exact k h f _ _ _ G cr H
  refine rt_k (k := 2) (pc' := 83) (L' := [some (.ref 23), some (.ref sa), some (.int (nI S.length)), some (.ref ra), some (.int (nI m)), some (.int (nI 0)), x6, x7, x8, x9, x10]) (st' := []) (h' := h) (fun _ => by first | rfl | (cases x5 <;> rfl) | (cases x6 <;> rfl) | (cases x7 <;> rfl) | (cases x8 <;> rfl) | (cases x9 <;> rfl) | (cases x10 <;> rfl) | (cases x5 <;> cases x6 <;> cases x7 <;> cases x8 <;> cases x9 <;> cases x10 <;> rfl)) ?_
  refine m_ag4 CS0 lsa lra z0 x7 x8 x9 x10 (fun h' f' y5 y6 G' cr' H' => ?_) 0 (Nat.zero_le _) h G f cr (Rx S m) H (fun a b ha hb => ⟨fun q => absurd q (Nat.not_lt_zero _), fun _ => Iff.rfl⟩) _
  refine rt_inc (c := 1) rfl rfl ?_
  refine rt_k (k := 1) (pc' := 74) (L' := [some (.ref 23), some (.ref sa), some (.int (nI S.length)), some (.ref ra), some (.int (nI (m + 1))), y5, y6, x7, x8, x9, x10]) (st' := []) (h' := h') (fun _ => by first | rfl | (cases y5 <;> rfl) | (cases y6 <;> rfl) | (cases x7 <;> rfl) | (cases x8 <;> rfl) | (cases x9 <;> rfl) | (cases x10 <;> rfl) | (cases y5 <;> cases y6 <;> cases x7 <;> cases x8 <;> cases x9 <;> cases x10 <;> rfl)) ?_
  exact m_ag5 CS0 lsa lra x7 x8 x9 x10 k (m + 1) z0 h' G' f' cr' H' _ _
termination_by S.length - m
/-- is one ready -/
theorem m_ag6 {ga da : Nat} {c i : Nat} {pl : Nat → Prop} {f D : Nat → Int32} {x7 : Value} (h8 : S.length ≤ 8) (cr : h[ra]? = some (.inl (4, 64, .inl f))) (H : fRx S f S.length) (cd : h[da]? = some (.inl (4, 8, .inl D))) (HD : ∀ j, j < S.length → D j = tB (pl j)) (hi : i < S.length) (k : ∀ y10, rt_ X (d + 3) 171 264 [some (.ref 23), some (.ref sa), some (.int (nI S.length)), some (.ref ra), some (.ref ga), some (.ref da), some (.int (nI c)), some x7, some (.int (nI i)), some (.int (tB (rdy (wR S S.length) S.length pl i))), y10] [] h Q) (j : Nat) (hj : j ≤ S.length) (P : Prop) (hP : P ↔ ¬ pl i ∧ ∀ b, b < j → ¬ (Rx S S.length i b ∧ ¬ Rx S S.length b i ∧ ¬ pl b)) : rt_ X (d + 3) 171 215 [some (.ref 23), some (.ref sa), some (.int (nI S.length)), some (.ref ra), some (.ref ga), some (.ref da), some (.int (nI c)), some x7, some (.int (nI i)), some (.int (tB P)), some (.int (nI j))] [] h Q := by
  refine rt_k (k := 2) (pc' := 218) (L' := [some (.ref 23), some (.ref sa), some (.int (nI S.length)), some (.ref ra), some (.ref ga), some (.ref da), some (.int (nI c)), some (x7), some (.int (nI i)), some (.int (tB P)), some (.int (nI j))]) (st' := [.int (nI S.length), .int (nI j)]) (h' := h) (fun _ => rfl) ?_
  refine rt_ige rfl (by omega) (by omega) (fun z0 => ?_) (fun z0 => ?_)
  ·
    have e : P ↔ rdy (wR S S.length) S.length pl i := by
      rw [rdy_x h8, hP]
      exact and_congr Iff.rfl ⟨fun q b hb => q b (by omega), fun q b hb => q b (by omega)⟩
    rw [tB_c e]
    exact k _
  have g1 := H i j hi z0
  have g2 := H j i z0 hi
  have g3 := HD j z0
  have stay : ¬ (Rx S S.length i j ∧ ¬ Rx S S.length j i ∧ ¬ pl j) → rt_ X (d + 3) 171 258 [some (.ref 23), some (.ref sa), some (.int (nI S.length)), some (.ref ra), some (.ref ga), some (.ref da), some (.int (nI c)), some x7, some (.int (nI i)), some (.int (tB P)), some (.int (nI j))] [] h Q := fun q => by
    refine rt_inc (c := 1) rfl rfl ?_
    refine rt_k (k := 1) (pc' := 215) (L' := [some (.ref 23), some (.ref sa), some (.int (nI S.length)), some (.ref ra), some (.ref ga), some (.ref da), some (.int (nI c)), some (x7), some (.int (nI i)), some (.int (tB P)), some (.int (nI (j + 1)))]) (st' := []) (h' := h) (fun _ => rfl) ?_
    refine m_ag6 h8 cr H cd HD hi k (j + 1) z0 P (hP.trans (and_congr Iff.rfl ⟨fun y b hb => ?_, fun y b hb => y b (by omega)⟩))
    by_cases e : b = j
    · subst e; exact q
    · exact y b (by omega)
  refine rt_k (k := 3) (pc' := 226) (L' := [some (.ref 23), some (.ref sa), some (.int (nI S.length)), some (.ref ra), some (.ref ga), some (.ref da), some (.int (nI c)), some (x7), some (.int (nI i)), some (.int (tB P)), some (.int (nI j))]) (st' := [.int (nI i), .int (nI 8), .ref ra]) (h' := h) (fun _ => rfl) ?_
  refine rt_mul rfl ?_
  refine rt_k (k := 1) (pc' := 229) (L' := [some (.ref 23), some (.ref sa), some (.int (nI S.length)), some (.ref ra), some (.ref ga), some (.ref da), some (.int (nI c)), some (x7), some (.int (nI i)), some (.int (tB P)), some (.int (nI j))]) (st' := [.int (nI j), .int (nI (8 * i)), .ref ra]) (h' := h) (fun _ => rfl) ?_
  refine rt_add rfl ?_
  refine rt_zalN rfl cr rfl (by omega) (by decide) g1 ?_
  refine rt_pe rfl (fun z1 => ?_) (fun z1 => ?_)
  rotate_left
  ·
    refine rt_k (k := 3) (pc' := 239) (L' := [some (.ref 23), some (.ref sa), some (.int (nI S.length)), some (.ref ra), some (.ref ga), some (.ref da), some (.int (nI c)), some (x7), some (.int (nI i)), some (.int (tB P)), some (.int (nI j))]) (st' := [.int (nI j), .int (nI 8), .ref ra]) (h' := h) (fun _ => rfl) ?_
    refine rt_mul rfl ?_
    refine rt_k (k := 1) (pc' := 242) (L' := [some (.ref 23), some (.ref sa), some (.int (nI S.length)), some (.ref ra), some (.ref ga), some (.ref da), some (.int (nI c)), some (x7), some (.int (nI i)), some (.int (tB P)), some (.int (nI j))]) (st' := [.int (nI i), .int (nI (8 * j)), .ref ra]) (h' := h) (fun _ => rfl) ?_
    refine rt_add rfl ?_
    refine rt_zalN rfl cr rfl (by omega) (by decide) g2 ?_
    refine rt_pn rfl (fun z2 => ?_) (fun z2 => ?_)
    rotate_left
    ·
      refine rt_k (k := 2) (pc' := 251) (L' := [some (.ref 23), some (.ref sa), some (.int (nI S.length)), some (.ref ra), some (.ref ga), some (.ref da), some (.int (nI c)), some (x7), some (.int (nI i)), some (.int (tB P)), some (.int (nI j))]) (st' := [.int (nI j), .ref da]) (h' := h) (fun _ => rfl) ?_
      refine rt_zalN rfl cd rfl (by omega) (by decide) g3 ?_
      refine rt_pn rfl (fun z3 => ?_) (fun z3 => ?_)
      rotate_left
      ·
        refine rt_k (k := 2) (pc' := 258) (L' := [some (.ref 23), some (.ref sa), some (.int (nI S.length)), some (.ref ra), some (.ref ga), some (.ref da), some (.int (nI c)), some (x7), some (.int (nI i)), some (.int (nI 0)), some (.int (nI j))]) (st' := []) (h' := h) (fun _ => rfl) ?_
        refine rt_inc (c := 1) rfl rfl ?_
        refine rt_k (k := 1) (pc' := 215) (L' := [some (.ref 23), some (.ref sa), some (.int (nI S.length)), some (.ref ra), some (.ref ga), some (.ref da), some (.int (nI c)), some (x7), some (.int (nI i)), some (.int (nI 0)), some (.int (nI (j + 1)))]) (st' := []) (h' := h) (fun _ => rfl) ?_
        rw [show nI 0 = tB False from tF0 id]
        exact m_ag6 h8 cr H cd HD hi k (j + 1) z0 False ⟨fun q => absurd q id, fun q => q.2 j (Nat.lt_succ_self j) ⟨z1, z2, z3⟩⟩
      exact stay (fun q => q.2.2 z3)
    exact stay (fun q => q.2.1 z2)
  exact stay (fun q => z1 q.1)
termination_by S.length - j
/-- the first that is ready -/
theorem m_ag7 {ga da : Nat} {c : Nat} {pl : Nat → Prop} {f D : Nat → Int32} (h8 : S.length ≤ 8) (cr : h[ra]? = some (.inl (4, 64, .inl f))) (H : fRx S f S.length) (cd : h[da]? = some (.inl (4, 8, .inl D))) (HD : ∀ j, j < S.length → D j = tB (pl j)) (hex : ∃ j, j < S.length ∧ rdy (wR S S.length) S.length pl j) (k : ∀ j y8 y9 y10, j < S.length → frF (wR S S.length) S.length pl S.length 0 = cir (wR S S.length) S.length j → rt_ X (d + 3) 171 279 [some (.ref 23), some (.ref sa), some (.int (nI S.length)), some (.ref ra), some (.ref ga), some (.ref da), some (.int (nI c)), some (.int (nI j)), y8, y9, y10] [] h Q) (i : Nat) (hi : i ≤ S.length) (Hn : ∀ l, l < i → ¬ rdy (wR S S.length) S.length pl l) (x9 x10 : Option Value) : rt_ X (d + 3) 171 186 [some (.ref 23), some (.ref sa), some (.int (nI S.length)), some (.ref ra), some (.ref ga), some (.ref da), some (.int (nI c)), some (.int (-1)), some (.int (nI i)), x9, x10] [] h Q := by
  refine rt_k (k := 2) (pc' := 189) (L' := [some (.ref 23), some (.ref sa), some (.int (nI S.length)), some (.ref ra), some (.ref ga), some (.ref da), some (.int (nI c)), some (.int (-1)), some (.int (nI i)), x9, x10]) (st' := [.int (nI S.length), .int (nI i)]) (h' := h) (fun _ => by first | rfl | (cases x9 <;> rfl) | (cases x10 <;> rfl) | (cases x9 <;> cases x10 <;> rfl)) ?_
  refine rt_ige rfl (by omega) (by omega) (fun z0 => ?_) (fun z0 => ?_)
  ·
    obtain ⟨j, hj, q⟩ := hex
    exact absurd q (Hn j (by omega))
  have g3 := HD i z0
  have go : ∀ q c', (q ↔ ¬ pl i) → c' = tB q → rt_ X (d + 3) 171 210 [some (.ref 23), some (.ref sa), some (.int (nI S.length)), some (.ref ra), some (.ref ga), some (.ref da), some (.int (nI c)), some (.int (-1)), some (.int (nI i)), x9, x10] [.int c'] h Q := fun q c' hq hc => by
    subst hc
    refine rt_k (k := 3) (pc' := 215) (L' := [some (.ref 23), some (.ref sa), some (.int (nI S.length)), some (.ref ra), some (.ref ga), some (.ref da), some (.int (nI c)), some (.int (-1)), some (.int (nI i)), some (.int (tB q)), some (.int (nI 0))]) (st' := []) (h' := h) (fun _ => by first | rfl | (cases x9 <;> rfl) | (cases x10 <;> rfl) | (cases x9 <;> cases x10 <;> rfl)) ?_
    refine m_ag6 h8 cr H cd HD z0 (fun y10 => ?_) 0 (Nat.zero_le _) q ⟨fun y => ⟨hq.mp y, fun b hb => absurd hb (Nat.not_lt_zero _)⟩, fun y => hq.mpr y.1⟩
    refine rt_k (k := 1) (pc' := 266) (L' := [some (.ref 23), some (.ref sa), some (.int (nI S.length)), some (.ref ra), some (.ref ga), some (.ref da), some (.int (nI c)), some (.int (-1)), some (.int (nI i)), some (.int (tB (rdy (wR S S.length) S.length pl i))), y10]) (st' := [.int (tB (rdy (wR S S.length) S.length pl i))]) (h' := h) (fun _ => by first | rfl | (cases y10 <;> rfl)) ?_
    refine rt_pe rfl (fun z2 => ?_) (fun z2 => ?_)
    rotate_left
    ·
      refine rt_k (k := 2) (pc' := 273) (L' := [some (.ref 23), some (.ref sa), some (.int (nI S.length)), some (.ref ra), some (.ref ga), some (.ref da), some (.int (nI c)), some (.int (nI i)), some (.int (nI i)), some (.int (tB (rdy (wR S S.length) S.length pl i))), y10]) (st' := []) (h' := h) (fun _ => by first | rfl | (cases y10 <;> rfl)) ?_
      refine rt_inc (c := 1) rfl rfl ?_
      refine rt_k (k := 1) (pc' := 186) (L' := [some (.ref 23), some (.ref sa), some (.int (nI S.length)), some (.ref ra), some (.ref ga), some (.ref da), some (.int (nI c)), some (.int (nI i)), some (.int (nI (i + 1))), some (.int (tB (rdy (wR S S.length) S.length pl i))), y10]) (st' := []) (h' := h) (fun _ => by first | rfl | (cases y10 <;> rfl)) ?_
      refine rt_k (k := 2) (pc' := 189) (L' := [some (.ref 23), some (.ref sa), some (.int (nI S.length)), some (.ref ra), some (.ref ga), some (.ref da), some (.int (nI c)), some (.int (nI i)), some (.int (nI (i + 1))), some (.int (tB (rdy (wR S S.length) S.length pl i))), y10]) (st' := [.int (nI S.length), .int (nI (i + 1))]) (h' := h) (fun _ => by first | rfl | (cases y10 <;> rfl)) ?_
      refine rt_ige rfl (by omega) (by omega) (fun z3 => ?_) (fun z3 => ?_)
      ·
        exact k i _ _ _ z0 (frF_fst z0 z2 Hn)
      refine rt_k (k := 1) (pc' := 194) (L' := [some (.ref 23), some (.ref sa), some (.int (nI S.length)), some (.ref ra), some (.ref ga), some (.ref da), some (.int (nI c)), some (.int (nI i)), some (.int (nI (i + 1))), some (.int (tB (rdy (wR S S.length) S.length pl i))), y10]) (st' := [.int (nI i)]) (h' := h) (fun _ => by first | rfl | (cases y10 <;> rfl)) ?_
      refine rt_zge rfl (by omega) ?_
      exact k i _ _ _ z0 (frF_fst z0 z2 Hn)
    refine rt_inc (c := 1) rfl rfl ?_
    refine rt_k (k := 1) (pc' := 186) (L' := [some (.ref 23), some (.ref sa), some (.int (nI S.length)), some (.ref ra), some (.ref ga), some (.ref da), some (.int (nI c)), some (.int (-1)), some (.int (nI (i + 1))), some (.int (tB (rdy (wR S S.length) S.length pl i))), y10]) (st' := []) (h' := h) (fun _ => by first | rfl | (cases y10 <;> rfl)) ?_
    exact m_ag7 h8 cr H cd HD hex k (i + 1) z0 (fun l hl => by
      by_cases y : l = i
      · subst y; exact z2
      · exact Hn l (by omega)) _ _
  refine rt_k (k := 4) (pc' := 201) (L' := [some (.ref 23), some (.ref sa), some (.int (nI S.length)), some (.ref ra), some (.ref ga), some (.ref da), some (.int (nI c)), some (.int (-1)), some (.int (nI i)), x9, x10]) (st' := [.int (nI i), .ref da]) (h' := h) (fun _ => by first | rfl | (cases x9 <;> rfl) | (cases x10 <;> rfl) | (cases x9 <;> cases x10 <;> rfl)) ?_
  refine rt_zalN rfl cd rfl (by omega) (by decide) g3 ?_
  refine rt_pn rfl (fun z1 => ?_) (fun z1 => ?_)
  rotate_left
  ·
    refine rt_k (k := 2) (pc' := 210) (L' := [some (.ref 23), some (.ref sa), some (.int (nI S.length)), some (.ref ra), some (.ref ga), some (.ref da), some (.int (nI c)), some (.int (-1)), some (.int (nI i)), x9, x10]) (st' := [.int (nI 1)]) (h' := h) (fun _ => by first | rfl | (cases x9 <;> rfl) | (cases x10 <;> rfl) | (cases x9 <;> cases x10 <;> rfl)) ?_
    exact go True _ ⟨fun _ => z1, fun _ => trivial⟩ (tF1 trivial)
  refine rt_k (k := 1) (pc' := 210) (L' := [some (.ref 23), some (.ref sa), some (.int (nI S.length)), some (.ref ra), some (.ref ga), some (.ref da), some (.int (nI c)), some (.int (-1)), some (.int (nI i)), x9, x10]) (st' := [.int (nI 0)]) (h' := h) (fun _ => by first | rfl | (cases x9 <;> rfl) | (cases x10 <;> rfl) | (cases x9 <;> cases x10 <;> rfl)) ?_
  exact go False _ ⟨fun q => absurd q id, fun q => absurd z1 q⟩ (tF0 id)
termination_by S.length - i
theorem crd_0 (n : Nat) : crd (fun _ => False) n = 0 := by
  induction n with
  | zero => rfl
  | succ n ih => rw [crd_f id, ih]
def gAc (h : List va_E) (ad : Nat → Nat) (GF : Nat → Option Nat) (CF : Nat → Int32) (acc : kG) : Prop := ∀ (i : Nat) e, acc[i]? = some e → GF i = some (ad (lNo e.1)) ∧ CF i = nI e.2
theorem gAc.sn {h : List va_E} {GF : Nat → Option Nat} {CF : Nat → Int32} {acc : kG} {r : kL} {c : Nat} (C : gAc h ad GF CF acc) : gAc h ad (va_up GF acc.length (some (ad (lNo r)))) (upd CF acc.length (nI c)) (acc ++ [(r, c)]) := fun i e he => by
  unfold va_up upd
  by_cases q : i < acc.length
  · rw [List.getElem?_append_left q] at he
    rw [if_neg (by omega), if_neg (by omega)]
    exact C i e he
  · have := gt_lt he
    rw [List.length_append, List.length_singleton] at this
    have : i = acc.length := by omega
    subst this
    rw [List.getElem?_append_right (Nat.le_refl _), Nat.sub_self] at he
    cases he
    rw [if_pos rfl, if_pos rfl]
    exact ⟨rfl, rfl⟩
/-- its circle is placed -/
theorem m_ag8 {h0 : List va_E} {c0 s0 : Nat} (CS0 : yS h0 ad sa F S) (lsa : sa < h0.length) (lra : h0.length ≤ ra) {ga rl ci da n c : Nat} {pl : Nat → Prop} {f : Nat → Int32} {acc : kG} (hz : ra < ga ∧ ga < rl ∧ rl < ci ∧ ci < da) (hn : n < S.length) (H : fRx S f S.length) (hacc : acc.length + crd (cir (wR S S.length) S.length n) S.length ≤ S.length) (y9 y10 : Option Value) (k : ∀ (h' : List va_E) (GF : Nat → Option Nat) (CF D : Nat → Int32) y8, gr (fun _ => False) c0 s0 h0 h' → h'[ra]? = some (.inl (4, 64, .inl f)) → h'[ga]? = some (.inr (13, [.ref rl, .ref ci, .int (nI (acc ++ selL S (cir (wR S S.length) S.length n) c S.length).length)])) → h'[rl]? = some (.inl (10, 8, .inr (.inr (.inr (.inr GF))))) → h'[ci]? = some (.inl (2, 8, .inl CF)) → h'[da]? = some (.inl (4, 8, .inl D)) → gAc h' ad GF CF (acc ++ selL S (cir (wR S S.length) S.length n) c S.length) → (∀ j, j < S.length → D j = tB (pl j ∨ cir (wR S S.length) S.length n j)) → rt_ X (d + 3) 171 368 [some (.ref 23), some (.ref sa), some (.int (nI S.length)), some (.ref ra), some (.ref ga), some (.ref da), some (.int (nI c)), some (.int (nI n)), y8, y9, y10] [] h' Q) (i : Nat) (hi : i ≤ S.length) (h : List va_E) (G : gr (fun _ => False) c0 s0 h0 h) (cr : h[ra]? = some (.inl (4, 64, .inl f))) (cg : h[ga]? = some (.inr (13, [.ref rl, .ref ci, .int (nI (acc ++ selL S (cir (wR S S.length) S.length n) c i).length)]))) (GF : Nat → Option Nat) (cl : h[rl]? = some (.inl (10, 8, .inr (.inr (.inr (.inr GF)))))) (CF : Nat → Int32) (cc : h[ci]? = some (.inl (2, 8, .inl CF))) (D : Nat → Int32) (cd : h[da]? = some (.inl (4, 8, .inl D))) (HG : gAc h ad GF CF (acc ++ selL S (cir (wR S S.length) S.length n) c i)) (HD : ∀ j, j < S.length → D j = tB (pl j ∨ (j < i ∧ cir (wR S S.length) S.length n j))) : rt_ X (d + 3) 171 282 [some (.ref 23), some (.ref sa), some (.int (nI S.length)), some (.ref ra), some (.ref ga), some (.ref da), some (.int (nI c)), some (.int (nI n)), some (.int (nI i)), y9, y10] [] h Q := by
  obtain ⟨ca, h8, HS⟩ := id (CS0.g lsa G)
  have ll : (acc ++ selL S (cir (wR S S.length) S.length n) c i).length ≤ S.length := by
    rw [List.length_append, selL_len i hi]
    have := crd_mo (p := cir (wR S S.length) S.length n) hi
    omega
  refine rt_k (k := 2) (pc' := 285) (L' := [some (.ref 23), some (.ref sa), some (.int (nI S.length)), some (.ref ra), some (.ref ga), some (.ref da), some (.int (nI c)), some (.int (nI n)), some (.int (nI i)), y9, y10]) (st' := [.int (nI S.length), .int (nI i)]) (h' := h) (fun _ => by first | rfl | (cases y9 <;> rfl) | (cases y10 <;> rfl) | (cases y9 <;> cases y10 <;> rfl)) ?_
  refine rt_ige rfl (by omega) (by omega) (fun z0 => ?_) (fun z0 => ?_)
  ·
    have e : i = S.length := by omega
    subst e
    exact k h GF CF D _ G cr cg cl cc cd HG (fun j hj => by rw [HD j hj]; exact tB_c (or_congr Iff.rfl ⟨fun q => q.2, fun q => ⟨hj, q⟩⟩))
  obtain ⟨r, hr⟩ := gt_ex z0
  obtain ⟨f1, Yr⟩ := HS i r hr
  have g1 := H n i hn z0
  have g2 := H i n z0 hn
  have cx := cir_x (S := S) (m := n) z0
  have skip : ¬ cir (wR S S.length) S.length n i → rt_ X (d + 3) 171 362 [some (.ref 23), some (.ref sa), some (.int (nI S.length)), some (.ref ra), some (.ref ga), some (.ref da), some (.int (nI c)), some (.int (nI n)), some (.int (nI i)), y9, y10] [] h Q := fun q => by
    have e1 : selL S (cir (wR S S.length) S.length n) c (i + 1) = selL S (cir (wR S S.length) S.length n) c i := selL_f q
    refine rt_inc (c := 1) rfl rfl ?_
    refine rt_k (k := 1) (pc' := 282) (L' := [some (.ref 23), some (.ref sa), some (.int (nI S.length)), some (.ref ra), some (.ref ga), some (.ref da), some (.int (nI c)), some (.int (nI n)), some (.int (nI (i + 1))), y9, y10]) (st' := []) (h' := h) (fun _ => by first | rfl | (cases y9 <;> rfl) | (cases y10 <;> rfl) | (cases y9 <;> cases y10 <;> rfl)) ?_
    refine m_ag8 CS0 lsa lra hz hn H hacc y9 y10 k (i + 1) z0 h G cr (by rw [e1]; exact cg) GF cl CF cc D cd (by rw [e1]; exact HG) (fun j hj => ?_)
    rw [HD j hj]
    refine tB_c (or_congr Iff.rfl ⟨fun y => ⟨by omega, y.2⟩, fun y => ⟨?_, y.2⟩⟩)
    by_cases e : j = i
    · subst e; exact absurd y.2 q
    · omega
  refine rt_k (k := 3) (pc' := 293) (L' := [some (.ref 23), some (.ref sa), some (.int (nI S.length)), some (.ref ra), some (.ref ga), some (.ref da), some (.int (nI c)), some (.int (nI n)), some (.int (nI i)), y9, y10]) (st' := [.int (nI n), .int (nI 8), .ref ra]) (h' := h) (fun _ => by first | rfl | (cases y9 <;> rfl) | (cases y10 <;> rfl) | (cases y9 <;> cases y10 <;> rfl)) ?_
  refine rt_mul rfl ?_
  refine rt_k (k := 1) (pc' := 296) (L' := [some (.ref 23), some (.ref sa), some (.int (nI S.length)), some (.ref ra), some (.ref ga), some (.ref da), some (.int (nI c)), some (.int (nI n)), some (.int (nI i)), y9, y10]) (st' := [.int (nI i), .int (nI (8 * n)), .ref ra]) (h' := h) (fun _ => by first | rfl | (cases y9 <;> rfl) | (cases y10 <;> rfl) | (cases y9 <;> cases y10 <;> rfl)) ?_
  refine rt_add rfl ?_
  refine rt_zalN rfl cr rfl (by omega) (by decide) g1 ?_
  refine rt_pe rfl (fun z1 => ?_) (fun z1 => ?_)
  ·
    exact skip (fun q => z1 (cx.mp q).1)
  refine rt_k (k := 3) (pc' := 306) (L' := [some (.ref 23), some (.ref sa), some (.int (nI S.length)), some (.ref ra), some (.ref ga), some (.ref da), some (.int (nI c)), some (.int (nI n)), some (.int (nI i)), y9, y10]) (st' := [.int (nI i), .int (nI 8), .ref ra]) (h' := h) (fun _ => by first | rfl | (cases y9 <;> rfl) | (cases y10 <;> rfl) | (cases y9 <;> cases y10 <;> rfl)) ?_
  refine rt_mul rfl ?_
  refine rt_k (k := 1) (pc' := 309) (L' := [some (.ref 23), some (.ref sa), some (.int (nI S.length)), some (.ref ra), some (.ref ga), some (.ref da), some (.int (nI c)), some (.int (nI n)), some (.int (nI i)), y9, y10]) (st' := [.int (nI n), .int (nI (8 * i)), .ref ra]) (h' := h) (fun _ => by first | rfl | (cases y9 <;> rfl) | (cases y10 <;> rfl) | (cases y9 <;> cases y10 <;> rfl)) ?_
  refine rt_add rfl ?_
  refine rt_zalN rfl cr rfl (by omega) (by decide) g2 ?_
  refine rt_pn rfl (fun z2 => ?_) (fun z2 => ?_)
  rotate_left
  ·
    refine rt_k (k := 1) (pc' := 362) (L' := [some (.ref 23), some (.ref sa), some (.int (nI S.length)), some (.ref ra), some (.ref ga), some (.ref da), some (.int (nI c)), some (.int (nI n)), some (.int (nI i)), y9, y10]) (st' := []) (h' := h) (fun _ => by first | rfl | (cases y9 <;> rfl) | (cases y10 <;> rfl) | (cases y9 <;> cases y10 <;> rfl)) ?_
    exact skip (fun q => z2 (cx.mp q).2)
  have ic := cx.mpr ⟨z1, z2⟩
  have e1 : selL S (cir (wR S S.length) S.length n) c (i + 1) = selL S (cir (wR S S.length) S.length n) c i ++ [(r, c)] := selL_t hr ic
  have l1 : (acc ++ selL S (cir (wR S S.length) S.length n) c (i + 1)).length = (acc ++ selL S (cir (wR S S.length) S.length n) c i).length + 1 := by rw [e1, ← List.append_assoc, List.length_append]; rfl
  have lt : (acc ++ selL S (cir (wR S S.length) S.length n) c i).length < S.length := by
    have h1 : (acc ++ selL S (cir (wR S S.length) S.length n) c (i + 1)).length ≤ S.length := by
      rw [List.length_append, selL_len (i + 1) z0]
      have := crd_mo (p := cir (wR S S.length) S.length n) (show i + 1 ≤ S.length from z0)
      omega
    omega
  obtain ⟨nm7, ve7, nd7, nr7, bk7, br7, ow7, NF7, RF7, BF7, QF7, OF7, ⟨zr7, cr7⟩, ⟨-, cnd7⟩, ⟨-, cnr7⟩, ⟨-, cbk7⟩, ⟨-, cbr7⟩, ⟨-, cow7⟩, hln7, Sn7, Vn7, DN7, DB7, WO7⟩ := id (Yr)
  refine rt_k (k := 1) (pc' := 319) (L' := [some (.ref 23), some (.ref sa), some (.int (nI S.length)), some (.ref ra), some (.ref ga), some (.ref da), some (.int (nI c)), some (.int (nI n)), some (.int (nI i)), y9, y10]) (st' := [.ref ga]) (h' := h) (fun _ => by first | rfl | (cases y9 <;> rfl) | (cases y10 <;> rfl) | (cases y9 <;> cases y10 <;> rfl)) ?_
  refine rt_gf rfl cg rfl rfl ?_
  refine rt_k (k := 1) (pc' := 324) (L' := [some (.ref 23), some (.ref sa), some (.int (nI S.length)), some (.ref ra), some (.ref ga), some (.ref da), some (.int (nI c)), some (.int (nI n)), some (.int (nI i)), y9, y10]) (st' := [.ref ga, .ref rl]) (h' := h) (fun _ => by first | rfl | (cases y9 <;> rfl) | (cases y10 <;> rfl) | (cases y9 <;> cases y10 <;> rfl)) ?_
  refine rt_gf rfl cg rfl rfl ?_
  refine rt_k (k := 2) (pc' := 330) (L' := [some (.ref 23), some (.ref sa), some (.int (nI S.length)), some (.ref ra), some (.ref ga), some (.ref da), some (.int (nI c)), some (.int (nI n)), some (.int (nI i)), y9, y10]) (st' := [.int (nI i), .ref sa, .int (nI ((acc ++ selL S (cir (wR S S.length) S.length n) c i).length)), .ref rl]) (h' := h) (fun _ => by first | rfl | (cases y9 <;> rfl) | (cases y10 <;> rfl) | (cases y9 <;> cases y10 <;> rfl)) ?_
  refine rt_aalN rfl ca rfl (by omega) (by decide) f1 ?_
  refine rt_aasN rfl cl cr7 ⟨rfl, rfl⟩ (by omega) (by decide) ?_
  refine rt_nm (fun h_11 e_12 => ?_)
  have f_13 : fr_ (fun z => z = ga ∨ z = rl ∨ z = ci ∨ z = da) h h_11 := by rw [e_12]; exact fr_set (e' := .inl (10, 8, .inr (.inr (.inr (.inr (va_up GF ((acc ++ selL S (cir (wR S S.length) S.length n) c i).length) (some (ad (lNo r))))))))) cl (by rfl) (by first | decide | simp)
  have n_14 : h_11.length = h.length := by rw [e_12]; simp
  have c_15 : h_11[sa]? = some (.inl (10, 8, .inr (.inr (.inr (.inr F))))) := by rw [e_12]; exact hs_ne ca (by omega)
  have c_16 : h_11[ra]? = some (.inl (4, 64, .inl f)) := by rw [e_12]; exact hs_ne cr (hc_ne cl cr (by intro q; cases q))
  have c_17 : h_11[ga]? = some (.inr (13, [.ref rl, .ref ci, .int (nI ((acc ++ selL S (cir (wR S S.length) S.length n) c i).length))])) := by rw [e_12]; exact hs_ne cg (hc_ne cl cg (by intro q; cases q))
  have c_18 : h_11[rl]? = some (.inl (10, 8, .inr (.inr (.inr (.inr (va_up GF ((acc ++ selL S (cir (wR S S.length) S.length n) c i).length) (some (ad (lNo r))))))))) := by rw [e_12]; exact hs_self cl
  have c_19 : h_11[ci]? = some (.inl (2, 8, .inl CF)) := by rw [e_12]; exact hs_ne cc (hc_ne cl cc (by intro q; cases q))
  have c_20 : h_11[da]? = some (.inl (4, 8, .inl D)) := by rw [e_12]; exact hs_ne cd (hc_ne cl cd (by intro q; cases q))
  have c_21 : h_11[ad (lNo r)]? = some (.inr (14, [.int (nI (lNo r)), .ref nm7, .ref ve7, .ref nd7, .ref nr7, .int (nI ((lNe r).length)), .ref bk7, .ref br7, .int (nI ((lBr r).length)), .ref ow7, .int (nI ((lOw r).length))])) := by rw [e_12]; exact hs_ne cr7 (hc_ne cl cr7 (by intro q; cases q))
  refine rt_k (k := 1) (pc' := 334) (L' := [some (.ref 23), some (.ref sa), some (.int (nI S.length)), some (.ref ra), some (.ref ga), some (.ref da), some (.int (nI c)), some (.int (nI n)), some (.int (nI i)), y9, y10]) (st' := [.ref ga]) (h' := h_11) (fun _ => by first | rfl | (cases y9 <;> rfl) | (cases y10 <;> rfl) | (cases y9 <;> cases y10 <;> rfl)) ?_
  refine rt_gf rfl c_17 rfl rfl ?_
  refine rt_k (k := 1) (pc' := 339) (L' := [some (.ref 23), some (.ref sa), some (.int (nI S.length)), some (.ref ra), some (.ref ga), some (.ref da), some (.int (nI c)), some (.int (nI n)), some (.int (nI i)), y9, y10]) (st' := [.ref ga, .ref ci]) (h' := h_11) (fun _ => by first | rfl | (cases y9 <;> rfl) | (cases y10 <;> rfl) | (cases y9 <;> cases y10 <;> rfl)) ?_
  refine rt_gf rfl c_17 rfl rfl ?_
  refine rt_k (k := 1) (pc' := 344) (L' := [some (.ref 23), some (.ref sa), some (.int (nI S.length)), some (.ref ra), some (.ref ga), some (.ref da), some (.int (nI c)), some (.int (nI n)), some (.int (nI i)), y9, y10]) (st' := [.int (nI c), .int (nI ((acc ++ selL S (cir (wR S S.length) S.length n) c i).length)), .ref ci]) (h' := h_11) (fun _ => by first | rfl | (cases y9 <;> rfl) | (cases y10 <;> rfl) | (cases y9 <;> cases y10 <;> rfl)) ?_
  refine rt_iasN rfl c_19 rfl (by omega) (by decide) ?_
  refine rt_nm (fun h_22 e_23 => ?_)
  have f_24 : fr_ (fun z => z = ga ∨ z = rl ∨ z = ci ∨ z = da) h h_22 := by rw [e_23]; exact fr_tr f_13 (fr_set (e' := .inl (2, 8, .inl (upd CF ((acc ++ selL S (cir (wR S S.length) S.length n) c i).length) (nI c)))) c_19 (by rfl) (by first | decide | simp))
  have n_25 : h_22.length = h_11.length := by rw [e_23]; simp
  have c_26 : h_22[sa]? = some (.inl (10, 8, .inr (.inr (.inr (.inr F))))) := by rw [e_23]; exact hs_ne c_15 (hc_ne c_19 c_15 (by intro q; cases q))
  have c_27 : h_22[ra]? = some (.inl (4, 64, .inl f)) := by rw [e_23]; exact hs_ne c_16 (hc_ne c_19 c_16 (by intro q; cases q))
  have c_28 : h_22[ga]? = some (.inr (13, [.ref rl, .ref ci, .int (nI ((acc ++ selL S (cir (wR S S.length) S.length n) c i).length))])) := by rw [e_23]; exact hs_ne c_17 (hc_ne c_19 c_17 (by intro q; cases q))
  have c_29 : h_22[rl]? = some (.inl (10, 8, .inr (.inr (.inr (.inr (va_up GF ((acc ++ selL S (cir (wR S S.length) S.length n) c i).length) (some (ad (lNo r))))))))) := by rw [e_23]; exact hs_ne c_18 (hc_ne c_19 c_18 (by intro q; cases q))
  have c_30 : h_22[ci]? = some (.inl (2, 8, .inl (upd CF ((acc ++ selL S (cir (wR S S.length) S.length n) c i).length) (nI c)))) := by rw [e_23]; exact hs_self c_19
  have c_31 : h_22[da]? = some (.inl (4, 8, .inl D)) := by rw [e_23]; exact hs_ne c_20 (hc_ne c_19 c_20 (by intro q; cases q))
  have c_32 : h_22[ad (lNo r)]? = some (.inr (14, [.int (nI (lNo r)), .ref nm7, .ref ve7, .ref nd7, .ref nr7, .int (nI ((lNe r).length)), .ref bk7, .ref br7, .int (nI ((lBr r).length)), .ref ow7, .int (nI ((lOw r).length))])) := by rw [e_23]; exact hs_ne c_21 (hc_ne c_19 c_21 (by intro q; cases q))
  refine rt_k (k := 2) (pc' := 348) (L' := [some (.ref 23), some (.ref sa), some (.int (nI S.length)), some (.ref ra), some (.ref ga), some (.ref da), some (.int (nI c)), some (.int (nI n)), some (.int (nI i)), y9, y10]) (st' := [.ref ga, .ref ga]) (h' := h_22) (fun _ => by first | rfl | (cases y9 <;> rfl) | (cases y10 <;> rfl) | (cases y9 <;> cases y10 <;> rfl)) ?_
  refine rt_gf rfl c_28 rfl rfl ?_
  refine rt_k (k := 1) (pc' := 352) (L' := [some (.ref 23), some (.ref sa), some (.int (nI S.length)), some (.ref ra), some (.ref ga), some (.ref da), some (.int (nI c)), some (.int (nI n)), some (.int (nI i)), y9, y10]) (st' := [.int (nI 1), .int (nI ((acc ++ selL S (cir (wR S S.length) S.length n) c i).length)), .ref ga]) (h' := h_22) (fun _ => by first | rfl | (cases y9 <;> rfl) | (cases y10 <;> rfl) | (cases y9 <;> cases y10 <;> rfl)) ?_
  refine rt_add rfl ?_
  refine rt_pf rfl c_28 ⟨rfl, (show 2 < 3 by decide), rfl⟩ ?_
  refine rt_nm (fun h_33 e_34 => ?_)
  have f_35 : fr_ (fun z => z = ga ∨ z = rl ∨ z = ci ∨ z = da) h h_33 := by rw [e_34]; exact fr_tr f_24 (fr_set (e' := .inr (13, [.ref rl, .ref ci, .int (nI (((acc ++ selL S (cir (wR S S.length) S.length n) c i).length) + 1))])) c_28 (by rfl) (by first | decide | simp))
  have n_36 : h_33.length = h_22.length := by rw [e_34]; simp
  have c_37 : h_33[sa]? = some (.inl (10, 8, .inr (.inr (.inr (.inr F))))) := by rw [e_34]; exact hs_ne c_26 (hc_ne c_28 c_26 (by intro q; cases q))
  have c_38 : h_33[ra]? = some (.inl (4, 64, .inl f)) := by rw [e_34]; exact hs_ne c_27 (hc_ne c_28 c_27 (by intro q; cases q))
  have c_39 : h_33[ga]? = some (.inr (13, [.ref rl, .ref ci, .int (nI (((acc ++ selL S (cir (wR S S.length) S.length n) c i).length) + 1))])) := by rw [e_34]; exact hs_self c_28
  have c_40 : h_33[rl]? = some (.inl (10, 8, .inr (.inr (.inr (.inr (va_up GF ((acc ++ selL S (cir (wR S S.length) S.length n) c i).length) (some (ad (lNo r))))))))) := by rw [e_34]; exact hs_ne c_29 (hc_ne c_28 c_29 (by intro q; cases q))
  have c_41 : h_33[ci]? = some (.inl (2, 8, .inl (upd CF ((acc ++ selL S (cir (wR S S.length) S.length n) c i).length) (nI c)))) := by rw [e_34]; exact hs_ne c_30 (hc_ne c_28 c_30 (by intro q; cases q))
  have c_42 : h_33[da]? = some (.inl (4, 8, .inl D)) := by rw [e_34]; exact hs_ne c_31 (hc_ne c_28 c_31 (by intro q; cases q))
  have c_43 : h_33[ad (lNo r)]? = some (.inr (14, [.int (nI (lNo r)), .ref nm7, .ref ve7, .ref nd7, .ref nr7, .int (nI ((lNe r).length)), .ref bk7, .ref br7, .int (nI ((lBr r).length)), .ref ow7, .int (nI ((lOw r).length))])) := by rw [e_34]; exact hs_ne c_32 (hc_ne c_28 c_32 (by intro q; cases q))
  refine rt_k (k := 3) (pc' := 361) (L' := [some (.ref 23), some (.ref sa), some (.int (nI S.length)), some (.ref ra), some (.ref ga), some (.ref da), some (.int (nI c)), some (.int (nI n)), some (.int (nI i)), y9, y10]) (st' := [.int (nI 1), .int (nI i), .ref da]) (h' := h_33) (fun _ => by first | rfl | (cases y9 <;> rfl) | (cases y10 <;> rfl) | (cases y9 <;> cases y10 <;> rfl)) ?_
  refine rt_zasN rfl c_42 rfl (by omega) (by decide) ?_
  refine rt_nm (fun h_44 e_45 => ?_)
  have f_46 : fr_ (fun z => z = ga ∨ z = rl ∨ z = ci ∨ z = da) h h_44 := by rw [e_45]; exact fr_tr f_35 (fr_set (e' := .inl (4, 8, .inl (upd D i (vp_nar .boolean (nI 1))))) c_42 (by rfl) (by first | decide | simp))
  have n_47 : h_44.length = h_33.length := by rw [e_45]; simp
  have c_48 : h_44[sa]? = some (.inl (10, 8, .inr (.inr (.inr (.inr F))))) := by rw [e_45]; exact hs_ne c_37 (hc_ne c_42 c_37 (by intro q; cases q))
  have c_49 : h_44[ra]? = some (.inl (4, 64, .inl f)) := by rw [e_45]; exact hs_ne c_38 (by omega)
  have c_50 : h_44[ga]? = some (.inr (13, [.ref rl, .ref ci, .int (nI (((acc ++ selL S (cir (wR S S.length) S.length n) c i).length) + 1))])) := by rw [e_45]; exact hs_ne c_39 (hc_ne c_42 c_39 (by intro q; cases q))
  have c_51 : h_44[rl]? = some (.inl (10, 8, .inr (.inr (.inr (.inr (va_up GF ((acc ++ selL S (cir (wR S S.length) S.length n) c i).length) (some (ad (lNo r))))))))) := by rw [e_45]; exact hs_ne c_40 (hc_ne c_42 c_40 (by intro q; cases q))
  have c_52 : h_44[ci]? = some (.inl (2, 8, .inl (upd CF ((acc ++ selL S (cir (wR S S.length) S.length n) c i).length) (nI c)))) := by rw [e_45]; exact hs_ne c_41 (hc_ne c_42 c_41 (by intro q; cases q))
  have c_53 : h_44[da]? = some (.inl (4, 8, .inl (upd D i (vp_nar .boolean (nI 1))))) := by rw [e_45]; exact hs_self c_42
  have c_54 : h_44[ad (lNo r)]? = some (.inr (14, [.int (nI (lNo r)), .ref nm7, .ref ve7, .ref nd7, .ref nr7, .int (nI ((lNe r).length)), .ref bk7, .ref br7, .int (nI ((lBr r).length)), .ref ow7, .int (nI ((lOw r).length))])) := by rw [e_45]; exact hs_ne c_43 (hc_ne c_42 c_43 (by intro q; cases q))
  refine rt_inc (c := 1) rfl rfl ?_
  refine rt_k (k := 1) (pc' := 282) (L' := [some (.ref 23), some (.ref sa), some (.int (nI S.length)), some (.ref ra), some (.ref ga), some (.ref da), some (.int (nI c)), some (.int (nI n)), some (.int (nI (i + 1))), y9, y10]) (st' := []) (h' := h_44) (fun _ => by first | rfl | (cases y9 <;> rfl) | (cases y10 <;> rfl) | (cases y9 <;> cases y10 <;> rfl)) ?_
  have FF := f_46
  have kg := c_50
  rw [← l1] at kg
  refine m_ag8 CS0 lsa lra hz hn H hacc y9 y10 k (i + 1) z0 _ (gr_w G FF (fun k q => by omega)) c_49 kg _ c_51 _ c_52 _ c_53 (by rw [e1, ← List.append_assoc]; exact HG.sn) (fun j hj => ?_)
  unfold upd
  by_cases e : j = i
  · rw [if_pos e, vb1, e]
    exact tF1 (Or.inr ⟨by omega, ic⟩)
  · rw [if_neg e, HD j hj]
    exact tB_c (or_congr Iff.rfl ⟨fun y => ⟨by omega, y.2⟩, fun y => ⟨by omega, y.2⟩⟩)
termination_by S.length - i
/-- circle after circle -/
theorem m_ag9 {h0 : List va_E} {c0 s0 : Nat} (CS0 : yS h0 ad sa F S) (lsa : sa < h0.length) (lra : h0.length ≤ ra) {ga rl ci da : Nat} {f : Nat → Int32} (h39 : 39 ≤ h0.length) (hz : ra < ga ∧ ga < rl ∧ rl < ci ∧ ci < da) (H : fRx S f S.length) (fu c : Nat) (hcf : c + fu = S.length) (pl : Nat → Prop) (acc : kG) (hpl : plC (wR S S.length) S.length pl) (hac : acc.length = crd pl S.length) (hca : c ≤ acc.length) (har : arL (wR S S.length) S fu c pl acc = arr S) (hin : ∀ e ∈ acc, e.1 ∈ S) (h : List va_E) (G : gr (fun _ => False) c0 s0 h0 h) (cr : h[ra]? = some (.inl (4, 64, .inl f))) (cg : h[ga]? = some (.inr (13, [.ref rl, .ref ci, .int (nI acc.length)]))) (GF : Nat → Option Nat) (cl : h[rl]? = some (.inl (10, 8, .inr (.inr (.inr (.inr GF)))))) (CF : Nat → Int32) (cc : h[ci]? = some (.inl (2, 8, .inl CF))) (D : Nat → Int32) (cd : h[da]? = some (.inl (4, 8, .inl D))) (HG : gAc h ad GF CF acc) (HD : ∀ j, j < S.length → D j = tB (pl j)) (x7 x8 x9 x10 : Option Value) : rt_ X (d + 3) 171 171 [some (.ref 23), some (.ref sa), some (.int (nI S.length)), some (.ref ra), some (.ref ga), some (.ref da), some (.int (nI c)), x7, x8, x9, x10] [] h (fun v h' => gr (fun _ => False) c0 s0 h0 h' ∧ v = some (.ref ga) ∧ yG h' ad ga (arr S)) := by
  obtain ⟨ca, h8, HS⟩ := id (CS0.g lsa G)
  have lac : acc.length ≤ S.length := by rw [hac]; exact crd_le _ _
  refine rt_k (k := 1) (pc' := 173) (L' := [some (.ref 23), some (.ref sa), some (.int (nI S.length)), some (.ref ra), some (.ref ga), some (.ref da), some (.int (nI c)), x7, x8, x9, x10]) (st' := [.ref ga]) (h' := h) (fun _ => by first | rfl | (cases x7 <;> rfl) | (cases x8 <;> rfl) | (cases x9 <;> rfl) | (cases x10 <;> rfl) | (cases x7 <;> cases x8 <;> cases x9 <;> cases x10 <;> rfl)) ?_
  refine rt_gf rfl cg rfl rfl ?_
  refine rt_k (k := 1) (pc' := 177) (L' := [some (.ref 23), some (.ref sa), some (.int (nI S.length)), some (.ref ra), some (.ref ga), some (.ref da), some (.int (nI c)), x7, x8, x9, x10]) (st' := [.int (nI S.length), .int (nI acc.length)]) (h' := h) (fun _ => by first | rfl | (cases x7 <;> rfl) | (cases x8 <;> rfl) | (cases x9 <;> rfl) | (cases x10 <;> rfl) | (cases x7 <;> cases x8 <;> cases x9 <;> cases x10 <;> rfl)) ?_
  refine rt_ige rfl (by omega) (by omega) (fun z0 => ?_) (fun z0 => ?_)
  ·
    have ea : acc = arr S := by
      rw [← har]
      cases fu with
      | zero => rfl
      | succ fu => rw [arL, if_neg (by omega)]
    have YG : yG h ad ga (arr S) := by
      rw [← ea]
      refine ⟨rl, ci, GF, CF, ⟨by unfold zz; omega, cg⟩, ⟨by unfold zz; omega, cl⟩, ⟨by unfold zz; omega, cc⟩, by omega, fun i e he => ?_⟩
      obtain ⟨q, hq⟩ := gt_mem (hin e (List.mem_of_getElem? he))
      exact ⟨(HG i e he).1, (HS q e.1 hq).2, (HG i e he).2⟩
    refine rt_k (k := 1) (pc' := 376) (L' := [some (.ref 23), some (.ref sa), some (.int (nI S.length)), some (.ref ra), some (.ref ga), some (.ref da), some (.int (nI c)), x7, x8, x9, x10]) (st' := [.ref ga]) (h' := h) (fun _ => by first | rfl | (cases x7 <;> rfl) | (cases x8 <;> rfl) | (cases x9 <;> rfl) | (cases x10 <;> rfl) | (cases x7 <;> cases x8 <;> cases x9 <;> cases x10 <;> rfl)) ?_
    exact rt_r (v := some (.ref ga)) rfl rfl (⟨G, rfl, YG⟩)
  obtain ⟨fu, rfl⟩ : ∃ x, fu = x + 1 := ⟨fu - 1, by omega⟩
  obtain ⟨i0, hi0, np⟩ := crd_ex S.length (show crd pl S.length < S.length by omega)
  have hex := rdy_one (S := S) rfl hi0 np
  rw [arL, if_pos z0] at har
  obtain ⟨dj, hp'⟩ := plC_s (R := wR S S.length) wR_T hpl
  refine rt_k (k := 4) (pc' := 186) (L' := [some (.ref 23), some (.ref sa), some (.int (nI S.length)), some (.ref ra), some (.ref ga), some (.ref da), some (.int (nI c)), some (.int (-1)), some (.int (nI 0)), x9, x10]) (st' := []) (h' := h) (fun _ => by first | rfl | (cases x7 <;> rfl) | (cases x8 <;> rfl) | (cases x9 <;> rfl) | (cases x10 <;> rfl) | (cases x7 <;> cases x8 <;> cases x9 <;> cases x10 <;> rfl)) ?_
  refine m_ag7 h8 cr H cd HD hex (fun n y8 y9 y10 hn hfr => ?_) 0 (Nat.zero_le _) (fun l hl => absurd hl (Nat.not_lt_zero _)) _ _
  rw [hfr] at har dj hp'
  have hcr : crd (fun q => pl q ∨ cir (wR S S.length) S.length n q) S.length = crd pl S.length + crd (cir (wR S S.length) S.length n) S.length := crd_or S.length dj
  have hle : acc.length + crd (cir (wR S S.length) S.length n) S.length ≤ S.length := by
    rw [hac, ← hcr]; exact crd_le _ _
  refine rt_k (k := 2) (pc' := 282) (L' := [some (.ref 23), some (.ref sa), some (.int (nI S.length)), some (.ref ra), some (.ref ga), some (.ref da), some (.int (nI c)), some (.int (nI n)), some (.int (nI 0)), y9, y10]) (st' := []) (h' := h) (fun _ => by first | rfl | (cases y8 <;> rfl) | (cases y9 <;> rfl) | (cases y10 <;> rfl) | (cases y8 <;> cases y9 <;> cases y10 <;> rfl)) ?_
  refine m_ag8 (c0 := c0) (s0 := s0) (pl := pl) (acc := acc) CS0 lsa lra hz hn H hle _ _ (fun h' GF' CF' D' y8 b1 b2 b3 b4 b5 b6 b7 b8 => ?_) 0 (Nat.zero_le _) h G cr (by rw [selL, List.append_nil]; exact cg) GF cl CF cc D cd (by rw [selL, List.append_nil]; exact HG) (fun j hj => by rw [HD j hj]; exact tB_c ⟨Or.inl, fun q => q.elim id (fun q => absurd q.1 (Nat.not_lt_zero _))⟩)
  have l2 : (acc ++ selL S (cir (wR S S.length) S.length n) c S.length).length = crd (fun q => pl q ∨ cir (wR S S.length) S.length n q) S.length := by rw [hcr, List.length_append, selL_len _ (Nat.le_refl _), hac]
  have cp : 1 ≤ crd (cir (wR S S.length) S.length n) S.length := crd_p hn (Or.inl rfl)
  refine rt_inc (c := 1) rfl rfl ?_
  refine rt_k (k := 1) (pc' := 171) (L' := [some (.ref 23), some (.ref sa), some (.int (nI S.length)), some (.ref ra), some (.ref ga), some (.ref da), some (.int (nI (c + 1))), some (.int (nI n)), y8, y9, y10]) (st' := []) (h' := h') (fun _ => by first | rfl | (cases y8 <;> rfl) | (cases y9 <;> rfl) | (cases y10 <;> rfl) | (cases y8 <;> cases y9 <;> cases y10 <;> rfl)) ?_
  refine m_ag9 CS0 lsa lra h39 hz H fu (c + 1) (by omega) _ _ hp' l2 (by omega) har (fun e he => ?_) h' b1 b2 b3 GF' b4 CF' b5 D' b6 b7 b8 _ _ _ _
  rcases List.mem_append.mp he with q | q
  · exact hin e q
  · obtain ⟨p, _, _, p3, _⟩ := (selL_in _ e).mp q
    exact List.mem_of_getElem? p3
termination_by fu
theorem m_gini {a : Nat} (ca : h[a]? = some (.inr (13, [.null, .null, .int (nI 0)]))) : rt_ X d 126 0 [some (.ref a)] [] h (fun v h' => v = none ∧ gr (fun z => z = a) 2 16 h h' ∧ ∃ rl ci GF CF, h.length ≤ rl ∧ rl < ci ∧ ci < h'.length ∧ h'[a]? = some (.inr (13, [.ref rl, .ref ci, .int (nI 0)])) ∧ h'[rl]? = some (.inl (10, 8, .inr (.inr (.inr (.inr GF))))) ∧ h'[ci]? = some (.inl (2, 8, .inl CF))) := by
  have hla := hc_lt ca
  refine rt_k (k := 4) (pc' := 7) (L' := [some (.ref a)]) (st' := [.int (nI 8), .ref a]) (h' := h) (fun _ => rfl) ?_
  refine rt_k (k := 1) (pc' := 10) (L' := [some (.ref a)]) (st' := [.ref h.length, .ref a]) (h' := (h ++ [.inl (10, 8, .inr (.inr (.inr (.inr (fun _ => none)))))])) (fun _ => rfl) ?_
  refine rt_nm (fun h_55 e_56 => ?_)
  have g_57 : gr (fun z => z = a) 1 (8) h h_55 := by rw [e_56]; exact gr_mo (gr_tr (gr_rf (h := h)) (gr_app (.inl (10, 8, .inr (.inr (.inr (.inr (fun _ => none)))))))) (fun _ q => q) (by first | exact Nat.le_refl _ | omega) (by first | exact Nat.le_refl _ | (simp only [ab_z]; omega))
  have n_58 : h_55.length = h.length + 1 := by rw [e_56]; simp
  have c_59 : h_55[a]? = some (.inr (13, [.null, .null, .int (nI 0)])) := by rw [e_56]; exact ha_old _ ca
  have c_60 : h_55[h.length]? = some (.inl (10, 8, .inr (.inr (.inr (.inr (fun _ => none)))))) := by rw [e_56]; exact ha_new
  refine rt_pf rfl c_59 ⟨rfl, (show 0 < 3 by decide), rfl⟩ ?_
  refine rt_nm (fun h_61 e_62 => ?_)
  have g_63 : gr (fun z => z = a) 1 (8) h h_61 := by rw [e_62]; exact gr_mo (gr_tr g_57 (gr_fr (fr_set (e' := .inr (13, [.ref h.length, .null, .int (nI 0)])) c_59 (by rfl) (by first | decide | simp)))) (fun _ q => q) (by first | exact Nat.le_refl _ | omega) (by first | exact Nat.le_refl _ | (simp only [ab_z]; omega))
  have n_64 : h_61.length = h_55.length := by rw [e_62]; simp
  have c_65 : h_61[a]? = some (.inr (13, [.ref h.length, .null, .int (nI 0)])) := by rw [e_62]; exact hs_self c_59
  have c_66 : h_61[h.length]? = some (.inl (10, 8, .inr (.inr (.inr (.inr (fun _ => none)))))) := by rw [e_62]; exact hs_ne c_60 (hc_ne c_59 c_60 (by intro q; cases q))
  refine rt_k (k := 2) (pc' := 16) (L' := [some (.ref a)]) (st' := [.int (nI 8), .ref a]) (h' := h_61) (fun _ => rfl) ?_
  refine rt_k (k := 1) (pc' := 18) (L' := [some (.ref a)]) (st' := [.ref h_61.length, .ref a]) (h' := (h_61 ++ [.inl (2, 8, .inl (fun _ => 0))])) (fun _ => rfl) ?_
  refine rt_nm (fun h_67 e_68 => ?_)
  have g_69 : gr (fun z => z = a) 2 (16) h h_67 := by rw [e_68]; exact gr_mo (gr_tr g_63 (gr_app (.inl (2, 8, .inl (fun _ => 0))))) (fun _ q => q) (by first | exact Nat.le_refl _ | omega) (by first | exact Nat.le_refl _ | (simp only [ab_z]; omega))
  have n_70 : h_67.length = h_61.length + 1 := by rw [e_68]; simp
  have c_71 : h_67[a]? = some (.inr (13, [.ref h.length, .null, .int (nI 0)])) := by rw [e_68]; exact ha_old _ c_65
  have c_72 : h_67[h.length]? = some (.inl (10, 8, .inr (.inr (.inr (.inr (fun _ => none)))))) := by rw [e_68]; exact ha_old _ c_66
  have c_73 : h_67[h_61.length]? = some (.inl (2, 8, .inl (fun _ => 0))) := by rw [e_68]; exact ha_new
  refine rt_pf rfl c_71 ⟨rfl, (show 1 < 3 by decide), rfl⟩ ?_
  refine rt_nm (fun h_74 e_75 => ?_)
  have g_76 : gr (fun z => z = a) 2 (16) h h_74 := by rw [e_75]; exact gr_mo (gr_tr g_69 (gr_fr (fr_set (e' := .inr (13, [.ref h.length, .ref h_61.length, .int (nI 0)])) c_71 (by rfl) (by first | decide | simp)))) (fun _ q => q) (by first | exact Nat.le_refl _ | omega) (by first | exact Nat.le_refl _ | (simp only [ab_z]; omega))
  have n_77 : h_74.length = h_67.length := by rw [e_75]; simp
  have c_78 : h_74[a]? = some (.inr (13, [.ref h.length, .ref h_61.length, .int (nI 0)])) := by rw [e_75]; exact hs_self c_71
  have c_79 : h_74[h.length]? = some (.inl (10, 8, .inr (.inr (.inr (.inr (fun _ => none)))))) := by rw [e_75]; exact hs_ne c_72 (hc_ne c_71 c_72 (by intro q; cases q))
  have c_80 : h_74[h_61.length]? = some (.inl (2, 8, .inl (fun _ => 0))) := by rw [e_75]; exact hs_ne c_73 (hc_ne c_71 c_73 (by intro q; cases q))
  have k1 := c_78
  have k2 := c_79
  have k3 := c_80
  exact rt_r (v := none) rfl rfl ⟨rfl, g_76, _, _, _, _, Nat.le_refl _, (by omega : h.length < h_61.length), hc_lt k3, k1, k2, k3⟩
def agP (h0 : List va_E) (ad : Nat → Nat) (S : List kL) (v : Option Value) (h' : List va_E) : Prop := gr (fun _ => False) 5 91 h0 h' ∧ ∃ ga, v = some (.ref ga) ∧ yG h' ad ga (arr S)
theorem m_arranged (h39 : 39 ≤ h.length) (CS : yS h ad sa F S) (ok : ∀ r ∈ S, okQ r) : rt_ X (d + 3) 171 0 [some (.ref 23), some (.ref sa), some (.int (nI S.length)), none, none, none, none, none, none, none, none] [] h (agP h ad S) := by
  have lsa := hc_lt CS.1
  have h8 := CS.2.1
  refine rt_k (k := 1) (pc' := 2) (L' := [some (.ref 23), some (.ref sa), some (.int (nI S.length)), none, none, none, none, none, none, none, none]) (st' := [.int (nI 64)]) (h' := h) (fun _ => rfl) ?_
  refine rt_k (k := 1) (pc' := 4) (L' := [some (.ref 23), some (.ref sa), some (.int (nI S.length)), none, none, none, none, none, none, none, none]) (st' := [.ref h.length]) (h' := (h ++ [.inl (4, 64, .inl (fun _ => 0))])) (fun _ => rfl) ?_
  refine rt_nm (fun h_81 e_82 => ?_)
  have g_83 : gr (fun _ => False) 1 (64) h h_81 := by rw [e_82]; exact gr_mo (gr_tr (gr_rf (h := h)) (gr_app (.inl (4, 64, .inl (fun _ => 0))))) (fun _ q => q) (by first | exact Nat.le_refl _ | omega) (by first | exact Nat.le_refl _ | (simp only [ab_z]; omega))
  have n_84 : h_81.length = h.length + 1 := by rw [e_82]; simp
  have c_85 : h_81[h.length]? = some (.inl (4, 64, .inl (fun _ => 0))) := by rw [e_82]; exact ha_new
  refine rt_k (k := 3) (pc' := 8) (L' := [some (.ref 23), some (.ref sa), some (.int (nI S.length)), some (.ref h.length), some (.int (nI 0)), none, none, none, none, none, none]) (st' := []) (h' := h_81) (fun _ => rfl) ?_
  have G1 := g_83
  have cr := c_85
  generalize h_81 = h1 at *
  refine m_ag2 CS lsa (Nat.le_refl _) ok none none none none none (fun h2 f2 y4 y5 G2 cr2 H2 => ?_) 0 (Nat.zero_le _) h1 G1 _ cr (fun a b _ _ q => absurd q (Nat.not_lt_zero _)) none
  refine rt_k (k := 2) (pc' := 74) (L' := [some (.ref 23), some (.ref sa), some (.int (nI S.length)), some (.ref h.length), some (.int (nI 0)), y5, none, none, none, none, none]) (st' := []) (h' := h2) (fun _ => by first | rfl | (cases y4 <;> rfl) | (cases y5 <;> rfl) | (cases y4 <;> cases y5 <;> rfl)) ?_
  refine m_ag5 CS lsa (Nat.le_refl _) none none none none (fun h3 f3 y4 y5 y6 G3 cr3 H3 => ?_) 0 (Nat.zero_le _) h2 G2 f2 cr2 H2 _ _
  have l3 := hc_lt cr3
  refine rt_k (k := 1) (pc' := 156) (L' := [some (.ref 23), some (.ref sa), some (.int (nI S.length)), some (.ref h.length), y4, y5, y6, none, none, none, none]) (st' := [.ref h3.length]) (h' := (h3 ++ [.inr (13, [.null, .null, .int (nI 0)])])) (fun _ => rfl) ?_
  refine rt_nm (fun h_86 e_87 => ?_)
  have g_88 : gr (fun _ => False) 1 (3) h3 h_86 := by rw [e_87]; exact gr_mo (gr_tr (gr_rf (h := h3)) (gr_app (.inr (13, [.null, .null, .int (nI 0)])))) (fun _ q => q) (by first | exact Nat.le_refl _ | omega) (by first | exact Nat.le_refl _ | (simp only [ab_z]; omega))
  have n_89 : h_86.length = h3.length + 1 := by rw [e_87]; simp
  have c_90 : h_86[h.length]? = some (.inl (4, 64, .inl f3)) := by rw [e_87]; exact ha_old _ cr3
  have c_91 : h_86[h3.length]? = some (.inr (13, [.null, .null, .int (nI 0)])) := by rw [e_87]; exact ha_new
  refine rt_k (k := 1) (pc' := 157) (L' := [some (.ref 23), some (.ref sa), some (.int (nI S.length)), some (.ref h.length), y4, y5, y6, none, none, none, none]) (st' := [.ref h3.length, .ref h3.length]) (h' := h_86) (fun _ => by first | rfl | (cases y4 <;> rfl) | (cases y5 <;> rfl) | (cases y6 <;> rfl) | (cases y4 <;> cases y5 <;> cases y6 <;> rfl)) ?_
  have G4 := g_88
  have c4 := c_91
  have cr4 := c_90
  generalize h_86 = h4 at *
  refine rt_c rfl rfl (m_gini c4) ?_
  rintro _ h5 ⟨rfl, G5, rl, ci, GF, CF, q1, q2, q3, k1, k2, k3⟩
  have l4 := hc_lt c4
  have cr5 := gr_at G5 cr4 (fun q => by omega)
  refine rt_k (k := 2) (pc' := 164) (L' := [some (.ref 23), some (.ref sa), some (.int (nI S.length)), some (.ref h.length), some (.ref h3.length), y5, y6, none, none, none, none]) (st' := [.int (nI 8)]) (h' := h5) (fun _ => by first | rfl | (cases y4 <;> rfl) | (cases y5 <;> rfl) | (cases y6 <;> rfl) | (cases y4 <;> cases y5 <;> cases y6 <;> rfl)) ?_
  refine rt_k (k := 1) (pc' := 166) (L' := [some (.ref 23), some (.ref sa), some (.int (nI S.length)), some (.ref h.length), some (.ref h3.length), y5, y6, none, none, none, none]) (st' := [.ref h5.length]) (h' := (h5 ++ [.inl (4, 8, .inl (fun _ => 0))])) (fun _ => rfl) ?_
  refine rt_nm (fun h_92 e_93 => ?_)
  have g_94 : gr (fun _ => False) 1 (8) h5 h_92 := by rw [e_93]; exact gr_mo (gr_tr (gr_rf (h := h5)) (gr_app (.inl (4, 8, .inl (fun _ => 0))))) (fun _ q => q) (by first | exact Nat.le_refl _ | omega) (by first | exact Nat.le_refl _ | (simp only [ab_z]; omega))
  have n_95 : h_92.length = h5.length + 1 := by rw [e_93]; simp
  have c_96 : h_92[h3.length]? = some (.inr (13, [.ref rl, .ref ci, .int (nI 0)])) := by rw [e_93]; exact ha_old _ k1
  have c_97 : h_92[rl]? = some (.inl (10, 8, .inr (.inr (.inr (.inr GF))))) := by rw [e_93]; exact ha_old _ k2
  have c_98 : h_92[ci]? = some (.inl (2, 8, .inl CF)) := by rw [e_93]; exact ha_old _ k3
  have c_99 : h_92[h.length]? = some (.inl (4, 64, .inl f3)) := by rw [e_93]; exact ha_old _ cr5
  have c_100 : h_92[h5.length]? = some (.inl (4, 8, .inl (fun _ => 0))) := by rw [e_93]; exact ha_new
  refine rt_k (k := 3) (pc' := 171) (L' := [some (.ref 23), some (.ref sa), some (.int (nI S.length)), some (.ref h.length), some (.ref h3.length), some (.ref h5.length), some (.int (nI 0)), none, none, none, none]) (st' := []) (h' := h_92) (fun _ => by first | rfl | (cases y4 <;> rfl) | (cases y5 <;> rfl) | (cases y6 <;> rfl) | (cases y4 <;> cases y5 <;> cases y6 <;> rfl)) ?_
  have G6 := g_94
  have m1 := c_96
  have m2 := c_97
  have m3 := c_98
  have m4 := c_99
  have m5 := c_100
  generalize h_92 = h6 at *
  have GA : gr (fun _ => False) 5 91 h h6 := gr_mo (gr_tr (gr_lo (gr_tr G3 G4) G5 (fun k q => by omega)) G6) (fun _ q => q) (by omega) (by omega)
  have := m_ag9 (X := X) (d := d) (c0 := 5) (s0 := 91) CS lsa (Nat.le_refl _) h39 (show h.length < h3.length ∧ h3.length < rl ∧ rl < ci ∧ ci < h5.length from ⟨by omega, by omega, q2, q3⟩) H3 S.length 0 (by omega) (fun _ => False) [] (fun _ _ _ _ w => absurd w id) (crd_0 _).symm (Nat.le_refl _) rfl (fun e he => by cases he) h6 GA m4 m1 _ m2 _ m3 _ m5 (fun i e he => by simp at he) (fun j hj => tF0 id) none none none none
  exact rt_w this (fun v h' ⟨a, b, c⟩ => ⟨a, _, b, c⟩)
end NJ

