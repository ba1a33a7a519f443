/-! THE REFERENCE, 27: what is reached; valid. -/
def nR (D : kD) (A : List (Option kL)) (K : Nat → Prop) (w : kW) : Prop := (∃ e ∈ D, e.1 = w) ∨ ∃ (j : Nat) (s : kL), A[j]? = some (some s) ∧ K j ∧ ∃ e ∈ lNe s, e.1 = w
theorem tB_c {p q : Prop} (e : p ↔ q) : tB p = tB q := tB_iff e
theorem vb0 : vp_nar .boolean (nI 0) = nI 0 := by decide
theorem vb1 : vp_nar .boolean (nI 1) = nI 1 := by decide
theorem tF0 {p : Prop} (h : ¬ p) : nI 0 = tB p := by unfold tB; rw [if_neg h]; rfl
theorem tF1 {p : Prop} (h : p) : nI 1 = tB p := by unfold tB; rw [if_pos h]; rfl
section NB
variable {X : Nat × (Nat → Int32)} {d : Nat} {h : List va_E} {Q : Option Value → List va_E → Prop} {ad : Nat → Nat} {J : List kL} {D : kD} {x y z md kc gn sp nc bc kn : Int32}
variable {sa : Nat} {F : Nat → Option Nat} {A : List (Option kL)}
/-- no one is reached at first -/
theorem m_ar0 {h0 : List va_E} (hA : A.length ≤ 8) (x4 x5 x6 x7 : Option Value) (i : Nat) (hi : i ≤ A.length) (h : List va_E) (c23 : h[23]? = some (mo x y z (mq (nI J.length) md (nI D.length) kc gn sp nc bc kn))) (G : Nat → Int32) (c35 : h[35]? = some (.inl (4, 8, .inl G))) (H : ∀ j, j < i → G j = nI 0) (FR : fr_ (fun z => z = 35) h0 h) (k : ∀ (h' : List va_E) (G : Nat → Int32), fr_ (fun z => z = 35) h0 h' → h'[35]? = some (.inl (4, 8, .inl G)) → (∀ j, j < A.length → G j = nI 0) → rt_ X (d + 4) 164 20 [some (.ref 23), some (.ref sa), some (.int (nI A.length)), some (.int (nI A.length)), x4, x5, x6, x7] [] h' Q) : rt_ X (d + 4) 164 2 [some (.ref 23), some (.ref sa), some (.int (nI A.length)), some (.int (nI i)), x4, x5, x6, x7] [] h Q := by
  refine rt_k (k := 2) (pc' := 4) (L' := [some (.ref 23), some (.ref sa), some (.int (nI A.length)), some (.int (nI i)), x4, x5, x6, x7]) (st' := [.int (nI A.length), .int (nI i)]) (h' := h) (fun _ => by first | rfl | (cases x4 <;> rfl) | (cases x5 <;> rfl) | (cases x6 <;> rfl) | (cases x7 <;> rfl)) ?_
  refine rt_ige rfl (by omega) (by omega) (fun z0 => ?_) (fun z0 => ?_)
  ·
    have e : i = A.length := by omega
    subst e
    exact k h G FR c35 H
  refine rt_k (k := 1) (pc' := 8) (L' := [some (.ref 23), some (.ref sa), some (.int (nI A.length)), some (.int (nI i)), x4, x5, x6, x7]) (st' := [.ref 23]) (h' := h) (fun _ => by first | rfl | (cases x4 <;> rfl) | (cases x5 <;> rfl) | (cases x6 <;> rfl) | (cases x7 <;> rfl)) ?_
  refine rt_gf rfl c23 rfl rfl ?_
  refine rt_k (k := 2) (pc' := 13) (L' := [some (.ref 23), some (.ref sa), some (.int (nI A.length)), some (.int (nI i)), x4, x5, x6, x7]) (st' := [.int (nI 0), .int (nI i), .ref 35]) (h' := h) (fun _ => by first | rfl | (cases x4 <;> rfl) | (cases x5 <;> rfl) | (cases x6 <;> rfl) | (cases x7 <;> rfl)) ?_
  refine rt_zasN rfl c35 rfl (by omega) (by decide) ?_
  refine rt_nm (fun h_1 e_2 => ?_)
  have f_3 : fr_ (fun z => z = 35) h h_1 := by rw [e_2]; exact fr_set (e' := .inl (4, 8, .inl (upd G i (vp_nar .boolean (nI 0))))) c35 (by rfl) (by first | decide | simp)
  have n_4 : h_1.length = h.length := by rw [e_2]; simp
  have c_5 : h_1[23]? = some (.inr (12, [.ref 24, .int x, .ref 25, .int y, .int z, .ref 26, .int (nI J.length), .int md, .ref 27, .ref 28, .int (nI D.length), .ref 29, .int kc, .int gn, .ref 30, .ref 31, .int sp, .ref 32, .int nc, .ref 33, .ref 34, .int bc, .int kn, .ref 35])) := by rw [e_2]; exact hs_ne c23 (by decide)
  have c_6 : h_1[35]? = some (.inl (4, 8, .inl (upd G i (vp_nar .boolean (nI 0))))) := by rw [e_2]; exact hs_self c35
  refine rt_inc (c := 1) rfl rfl ?_
  refine rt_k (k := 1) (pc' := 2) (L' := [some (.ref 23), some (.ref sa), some (.int (nI A.length)), some (.int (nI (i + 1))), x4, x5, x6, x7]) (st' := []) (h' := h_1) (fun _ => by first | rfl | (cases x4 <;> rfl) | (cases x5 <;> rfl) | (cases x6 <;> rfl) | (cases x7 <;> rfl)) ?_
  have FF := f_3
  have k3 := c_5
  have k5 := c_6
  refine m_ar0 hA x4 x5 x6 x7 (i + 1) z0 _ k3 _ k5 (fun j hj => ?_) (fr_tr FR FF) k
  unfold upd
  by_cases q : j = i
  · rw [if_pos q]; exact vb0
  · rw [if_neg q]; exact H j (by omega)
termination_by A.length - i
/-- needed by one -/
theorem m_ar3 {s r : kL} {m j : Nat} {P : Prop} {x3 : Option Value} (CA : yA h ad sa F A) (hj : A[j]? = some (some s)) (hm : A[m]? = some (some r)) (k : ∀ y7, rt_ X (d + 4) 164 163 [some (.ref 23), some (.ref sa), some (.int (nI A.length)), x3, some (.int (nI m)), some (.int (tB (P ∨ ∃ e ∈ lNe s, e.1 = lNm r))), some (.int (nI j)), y7] [] h Q) (i : Nat) (hi : i ≤ (lNe s).length) : rt_ X (d + 4) 164 110 [some (.ref 23), some (.ref sa), some (.int (nI A.length)), x3, some (.int (nI m)), some (.int (tB (P ∨ ∃ e ∈ (lNe s).take i, e.1 = lNm r))), some (.int (nI j)), some (.int (nI i))] [] h Q := by
  obtain ⟨ca, hA, HA⟩ := id CA
  obtain ⟨f1, Ys⟩ := HA j _ hj
  obtain ⟨f2, Yr⟩ := HA m _ hm
  have lj := gt_lt hj
  have lm := gt_lt hm
  obtain ⟨nm1, ve1, nd1, nr1, bk1, br1, ow1, NF1, RF1, BF1, QF1, OF1, ⟨zr1, cr1⟩, ⟨-, cnd1⟩, ⟨-, cnr1⟩, ⟨-, cbk1⟩, ⟨-, cbr1⟩, ⟨-, cow1⟩, hln1, Sn1, Vn1, DN1, DB1, WO1⟩ := id (Ys)
  obtain ⟨nm2, ve2, nd2, nr2, bk2, br2, ow2, NF2, RF2, BF2, QF2, OF2, ⟨zr2, cr2⟩, ⟨-, cnd2⟩, ⟨-, cnr2⟩, ⟨-, cbk2⟩, ⟨-, cbr2⟩, ⟨-, cow2⟩, hln2, Sn2, Vn2, DN2, DB2, WO2⟩ := id (Yr)
  refine rt_k (k := 3) (pc' := 115) (L' := [some (.ref 23), some (.ref sa), some (.int (nI A.length)), x3, some (.int (nI m)), some (.int (tB (P ∨ ∃ e ∈ (lNe s).take i, e.1 = lNm r))), some (.int (nI j)), some (.int (nI i))]) (st' := [.int (nI j), .ref sa, .int (nI i)]) (h' := h) (fun _ => by first | rfl | (cases x3 <;> rfl)) ?_
  refine rt_aalN rfl ca rfl (by omega) (by decide) f1 ?_
  refine rt_gf rfl cr1 rfl rfl ?_
  refine rt_ige rfl (by omega) (by omega) (fun z0 => ?_) (fun z0 => ?_)
  ·
    have e : i = (lNe s).length := by omega
    subst e
    rw [List.take_length]
    exact k _
  obtain ⟨e, he⟩ := gt_ex z0
  obtain ⟨⟨b, g1, Sb⟩, -⟩ := DN1 i e he
  obtain ⟨bv, bx, by', bcc, -, -⟩ := Sb.at
  have et : (P ∨ ∃ e ∈ (lNe s).take (i + 1), e.1 = lNm r) ↔ (P ∨ ∃ e ∈ (lNe s).take i, e.1 = lNm r) ∨ e.1 = lNm r := by
    rw [take_sn he]
    constructor
    · rintro (q | ⟨e', q1, q2⟩)
      · exact Or.inl (Or.inl q)
      · rcases List.mem_append.mp q1 with y | y
        · exact Or.inl (Or.inr ⟨e', y, q2⟩)
        · rw [List.mem_singleton] at y; rw [y] at q2; exact Or.inr q2
    · rintro ((q | ⟨e', q1, q2⟩) | q)
      · exact Or.inl q
      · exact Or.inr ⟨e', List.mem_append.mpr (Or.inl q1), q2⟩
      · exact Or.inr ⟨e, List.mem_append.mpr (Or.inr (List.mem_singleton.mpr rfl)), q⟩
  have nxt : ∀ c, c = tB (P ∨ ∃ e ∈ (lNe s).take (i + 1), e.1 = lNm r) → rt_ X (d + 4) 164 155 [some (.ref 23), some (.ref sa), some (.int (nI A.length)), x3, some (.int (nI m)), some (.int (tB (P ∨ ∃ e ∈ (lNe s).take i, e.1 = lNm r))), some (.int (nI j)), some (.int (nI i))] [.int c] h Q := fun c hc => by
    subst hc
    refine rt_k (k := 1) (pc' := 157) (L' := [some (.ref 23), some (.ref sa), some (.int (nI A.length)), x3, some (.int (nI m)), some (.int (tB (P ∨ ∃ e ∈ (lNe s).take (i + 1), e.1 = lNm r))), some (.int (nI j)), some (.int (nI i))]) (st' := []) (h' := h) (fun _ => by first | rfl | (cases x3 <;> rfl)) ?_
    refine rt_inc (c := 1) rfl rfl ?_
    refine rt_k (k := 1) (pc' := 110) (L' := [some (.ref 23), some (.ref sa), some (.int (nI A.length)), x3, some (.int (nI m)), some (.int (tB (P ∨ ∃ e ∈ (lNe s).take (i + 1), e.1 = lNm r))), some (.int (nI j)), some (.int (nI (i + 1)))]) (st' := []) (h' := h) (fun _ => by first | rfl | (cases x3 <;> rfl)) ?_
    exact m_ar3 CA hj hm k (i + 1) z0
  refine rt_k (k := 1) (pc' := 124) (L' := [some (.ref 23), some (.ref sa), some (.int (nI A.length)), x3, some (.int (nI m)), some (.int (tB (P ∨ ∃ e ∈ (lNe s).take i, e.1 = lNm r))), some (.int (nI j)), some (.int (nI i))]) (st' := [.int (tB (P ∨ ∃ e ∈ (lNe s).take i, e.1 = lNm r))]) (h' := h) (fun _ => by first | rfl | (cases x3 <;> rfl)) ?_
  refine rt_pn rfl (fun z1 => ?_) (fun z1 => ?_)
  ·
    refine rt_k (k := 2) (pc' := 155) (L' := [some (.ref 23), some (.ref sa), some (.int (nI A.length)), x3, some (.int (nI m)), some (.int (tB (P ∨ ∃ e ∈ (lNe s).take i, e.1 = lNm r))), some (.int (nI j)), some (.int (nI i))]) (st' := [.int (nI 1)]) (h' := h) (fun _ => by first | rfl | (cases x3 <;> rfl)) ?_
    exact nxt _ (tF1 (et.mpr (Or.inl z1)))
  refine rt_k (k := 2) (pc' := 130) (L' := [some (.ref 23), some (.ref sa), some (.int (nI A.length)), x3, some (.int (nI m)), some (.int (tB (P ∨ ∃ e ∈ (lNe s).take i, e.1 = lNm r))), some (.int (nI j)), some (.int (nI i))]) (st' := [.int (nI j), .ref sa]) (h' := h) (fun _ => by first | rfl | (cases x3 <;> rfl)) ?_
  refine rt_aalN rfl ca rfl (by omega) (by decide) f1 ?_
  refine rt_gf rfl cr1 rfl rfl ?_
  refine rt_k (k := 1) (pc' := 136) (L' := [some (.ref 23), some (.ref sa), some (.int (nI A.length)), x3, some (.int (nI m)), some (.int (tB (P ∨ ∃ e ∈ (lNe s).take i, e.1 = lNm r))), some (.int (nI j)), some (.int (nI i))]) (st' := [.int (nI i), .ref nd1]) (h' := h) (fun _ => by first | rfl | (cases x3 <;> rfl)) ?_
  refine rt_aalN rfl cnd1 rfl (by omega) (by decide) g1 ?_
  refine rt_k (k := 2) (pc' := 140) (L' := [some (.ref 23), some (.ref sa), some (.int (nI A.length)), x3, some (.int (nI m)), some (.int (tB (P ∨ ∃ e ∈ (lNe s).take i, e.1 = lNm r))), some (.int (nI j)), some (.int (nI i))]) (st' := [.int (nI m), .ref sa, .ref b]) (h' := h) (fun _ => by first | rfl | (cases x3 <;> rfl)) ?_
  refine rt_aalN rfl ca rfl (by omega) (by decide) f2 ?_
  refine rt_gf rfl cr2 rfl rfl ?_
  refine rt_cvE rfl (by decide) bcc rfl rfl rfl rfl (st_eq Sb Sn2) ?_
  refine rt_pe rfl (fun z2 => ?_) (fun z2 => ?_)
  ·
    refine rt_k (k := 1) (pc' := 155) (L' := [some (.ref 23), some (.ref sa), some (.int (nI A.length)), x3, some (.int (nI m)), some (.int (tB (P ∨ ∃ e ∈ (lNe s).take i, e.1 = lNm r))), some (.int (nI j)), some (.int (nI i))]) (st' := [.int (nI 0)]) (h' := h) (fun _ => by first | rfl | (cases x3 <;> rfl)) ?_
    exact nxt _ (tF0 (fun q => (et.mp q).elim z1 z2))
  refine rt_k (k := 2) (pc' := 155) (L' := [some (.ref 23), some (.ref sa), some (.int (nI A.length)), x3, some (.int (nI m)), some (.int (tB (P ∨ ∃ e ∈ (lNe s).take i, e.1 = lNm r))), some (.int (nI j)), some (.int (nI i))]) (st' := [.int (nI 1)]) (h' := h) (fun _ => by first | rfl | (cases x3 <;> rfl)) ?_
  exact nxt _ (tF1 (et.mpr (Or.inr z2)))
termination_by (lNe s).length - i
/-- needed by any that is reached -/
theorem m_ar2 {r : kL} {m : Nat} {P : Prop} {K : Nat → Prop} {G : Nat → Int32} {x3 : Option Value} (c23 : h[23]? = some (mo x y z (mq (nI J.length) md (nI D.length) kc gn sp nc bc kn))) (c35 : h[35]? = some (.inl (4, 8, .inl G))) (hG : ∀ j, j < A.length → G j = tB (K j)) (CA : yA h ad sa F A) (hm : A[m]? = some (some r)) (k : ∀ y6 y7, rt_ X (d + 4) 164 169 [some (.ref 23), some (.ref sa), some (.int (nI A.length)), x3, some (.int (nI m)), some (.int (tB (P ∨ ∃ (j : Nat) (s : kL), A[j]? = some (some s) ∧ K j ∧ ∃ e ∈ lNe s, e.1 = lNm r))), y6, y7] [] h Q) (x7 : Option Value) (i : Nat) (hi : i ≤ A.length) (R : Prop) (hR : R ↔ (P ∨ ∃ (j : Nat) (s : kL), j < i ∧ A[j]? = some (some s) ∧ K j ∧ ∃ e ∈ lNe s, e.1 = lNm r)) : rt_ X (d + 4) 164 81 [some (.ref 23), some (.ref sa), some (.int (nI A.length)), x3, some (.int (nI m)), some (.int (tB R)), some (.int (nI i)), x7] [] h Q := by
  obtain ⟨ca, hA, HA⟩ := id CA
  refine rt_k (k := 2) (pc' := 84) (L' := [some (.ref 23), some (.ref sa), some (.int (nI A.length)), x3, some (.int (nI m)), some (.int (tB R)), some (.int (nI i)), x7]) (st' := [.int (nI A.length), .int (nI i)]) (h' := h) (fun _ => by first | rfl | (cases x3 <;> rfl) | (cases x7 <;> rfl)) ?_
  refine rt_ige rfl (by omega) (by omega) (fun z0 => ?_) (fun z0 => ?_)
  ·
    have e : R ↔ (P ∨ ∃ (j : Nat) (s : kL), A[j]? = some (some s) ∧ K j ∧ ∃ e ∈ lNe s, e.1 = lNm r) := hR.trans (or_congr Iff.rfl ⟨fun ⟨j, s, _, q⟩ => ⟨j, s, q⟩, fun ⟨j, s, q⟩ => ⟨j, s, by have := gt_lt q.1; omega, q⟩⟩)
    rw [tB_c e]
    exact k _ _
  obtain ⟨x0, hx⟩ := gt_ex z0
  have Y0 := HA i x0 hx
  have stay : (∀ s, x0 = some s → ¬ K i) → (R ↔ (P ∨ ∃ (j : Nat) (s : kL), j < i + 1 ∧ A[j]? = some (some s) ∧ K j ∧ ∃ e ∈ lNe s, e.1 = lNm r)) := fun hn => hR.trans (or_congr Iff.rfl ⟨fun ⟨j, s, q1, q⟩ => ⟨j, s, by omega, q⟩, fun ⟨j, s, q1, q2, q3, q4⟩ => ⟨j, s, by
    by_cases y : j = i
    · subst y; rw [hx] at q2; cases q2; exact absurd q3 (hn s rfl)
    · omega, q2, q3, q4⟩⟩)
  cases x0 with
  | none =>
    have f1 : F i = none := Y0
    refine rt_k (k := 2) (pc' := 90) (L' := [some (.ref 23), some (.ref sa), some (.int (nI A.length)), x3, some (.int (nI m)), some (.int (tB R)), some (.int (nI i)), x7]) (st' := [.int (nI i), .ref sa]) (h' := h) (fun _ => by first | rfl | (cases x3 <;> rfl) | (cases x7 <;> rfl)) ?_
    refine rt_aalO rfl ca rfl (by omega) (by decide) f1 ?_
    refine rt_k (k := 1) (pc' := 163) (L' := [some (.ref 23), some (.ref sa), some (.int (nI A.length)), x3, some (.int (nI m)), some (.int (tB R)), some (.int (nI i)), x7]) (st' := []) (h' := h) (fun _ => by first | rfl | (cases x3 <;> rfl) | (cases x7 <;> rfl)) ?_
    refine rt_inc (c := 1) rfl rfl ?_
    refine rt_k (k := 1) (pc' := 81) (L' := [some (.ref 23), some (.ref sa), some (.int (nI A.length)), x3, some (.int (nI m)), some (.int (tB R)), some (.int (nI (i + 1))), x7]) (st' := []) (h' := h) (fun _ => by first | rfl | (cases x3 <;> rfl) | (cases x7 <;> rfl)) ?_
    exact m_ar2 c23 c35 hG CA hm k _ (i + 1) z0 R (stay (fun s q => by cases q))
  | some s =>
    obtain ⟨f1, Ys⟩ := Y0
    have gi := hG i z0
    refine rt_k (k := 2) (pc' := 90) (L' := [some (.ref 23), some (.ref sa), some (.int (nI A.length)), x3, some (.int (nI m)), some (.int (tB R)), some (.int (nI i)), x7]) (st' := [.int (nI i), .ref sa]) (h' := h) (fun _ => by first | rfl | (cases x3 <;> rfl) | (cases x7 <;> rfl)) ?_
    refine rt_aalN rfl ca rfl (by omega) (by decide) f1 ?_
    refine rt_k (k := 2) (pc' := 95) (L' := [some (.ref 23), some (.ref sa), some (.int (nI A.length)), x3, some (.int (nI m)), some (.int (tB R)), some (.int (nI i)), x7]) (st' := [.ref 23]) (h' := h) (fun _ => by first | rfl | (cases x3 <;> rfl) | (cases x7 <;> rfl)) ?_
    refine rt_gf rfl c23 rfl rfl ?_
    refine rt_k (k := 1) (pc' := 100) (L' := [some (.ref 23), some (.ref sa), some (.int (nI A.length)), x3, some (.int (nI m)), some (.int (tB R)), some (.int (nI i)), x7]) (st' := [.int (nI i), .ref 35]) (h' := h) (fun _ => by first | rfl | (cases x3 <;> rfl) | (cases x7 <;> rfl)) ?_
    refine rt_zalN rfl c35 rfl (by omega) (by decide) gi ?_
    refine rt_pn rfl (fun z1 => ?_) (fun z1 => ?_)
    rotate_left
    ·
      refine rt_k (k := 1) (pc' := 163) (L' := [some (.ref 23), some (.ref sa), some (.int (nI A.length)), x3, some (.int (nI m)), some (.int (tB R)), some (.int (nI i)), x7]) (st' := []) (h' := h) (fun _ => by first | rfl | (cases x3 <;> rfl) | (cases x7 <;> rfl)) ?_
      refine rt_inc (c := 1) rfl rfl ?_
      refine rt_k (k := 1) (pc' := 81) (L' := [some (.ref 23), some (.ref sa), some (.int (nI A.length)), x3, some (.int (nI m)), some (.int (tB R)), some (.int (nI (i + 1))), x7]) (st' := []) (h' := h) (fun _ => by first | rfl | (cases x3 <;> rfl) | (cases x7 <;> rfl)) ?_
      exact m_ar2 c23 c35 hG CA hm k _ (i + 1) z0 R (stay (fun s' q => z1))
    refine rt_k (k := 2) (pc' := 110) (L' := [some (.ref 23), some (.ref sa), some (.int (nI A.length)), x3, some (.int (nI m)), some (.int (tB R)), some (.int (nI i)), some (.int (nI 0))]) (st' := []) (h' := h) (fun _ => by first | rfl | (cases x3 <;> rfl) | (cases x7 <;> rfl)) ?_
    have e0 : R ↔ (R ∨ ∃ e ∈ (lNe s).take 0, e.1 = lNm r) := ⟨Or.inl, fun q => q.elim id (fun ⟨e, he, _⟩ => by cases he)⟩
    rw [tB_c e0]
    refine m_ar3 CA hx hm (fun y7 => ?_) 0 (Nat.zero_le _)
    have e1 : (R ∨ ∃ e ∈ lNe s, e.1 = lNm r) ↔ (P ∨ ∃ (j : Nat) (s : kL), j < i + 1 ∧ A[j]? = some (some s) ∧ K j ∧ ∃ e ∈ lNe s, e.1 = lNm r) := by
      rw [hR]
      constructor
      · rintro ((q | ⟨j, t, q1, q⟩) | q)
        · exact Or.inl q
        · exact Or.inr ⟨j, t, by omega, q⟩
        · exact Or.inr ⟨i, s, by omega, hx, z1, q⟩
      · rintro (q | ⟨j, t, q1, q2, q3, q4⟩)
        · exact Or.inl (Or.inl q)
        · by_cases y : j = i
          · subst y; rw [hx] at q2; cases q2; exact Or.inr q4
          · exact Or.inl (Or.inr ⟨j, t, by omega, q2, q3, q4⟩)
    refine rt_inc (c := 1) rfl rfl ?_
    refine rt_k (k := 1) (pc' := 81) (L' := [some (.ref 23), some (.ref sa), some (.int (nI A.length)), x3, some (.int (nI m)), some (.int (tB (R ∨ ∃ e ∈ lNe s, e.1 = lNm r))), some (.int (nI (i + 1))), y7]) (st' := []) (h' := h) (fun _ => by first | rfl | (cases x3 <;> rfl) | (cases y7 <;> rfl)) ?_
    exact m_ar2 c23 c35 hG CA hm k _ (i + 1) z0 _ e1
termination_by A.length - i
/-- one round over the set -/
theorem m_ar1 {h0 : List va_E} (hsa : ¬ sa = 35) (K0 : Nat → Prop) (kf : ∀ (h' : List va_E) (G : Nat → Int32) (K : Nat → Prop) (M : Prop) y4 y5 y6 y7, fr_ (fun z => z = 35) h0 h' → h'[35]? = some (.inl (4, 8, .inl G)) → (∀ j, j < A.length → G j = tB (K j)) → (∀ j, K0 j → K j) → (∀ j, K j → ∃ r, A[j]? = some (some r) ∧ rcd D (A.filterMap id) r) → (M → ∃ j, j < A.length ∧ K j ∧ ¬ K0 j) → (¬ M → ∀ (j : Nat) r, A[j]? = some (some r) → nR D A K (lNm r) → K j) → rt_ X (d + 4) 164 22 [some (.ref 23), some (.ref sa), some (.int (nI A.length)), some (.int (tB M)), y4, y5, y6, y7] [] h' Q) (i : Nat) (hi : i ≤ A.length) (h : List va_E) (FR : fr_ (fun z => z = 35) h0 h) (c23 : h[23]? = some (mo x y z (mq (nI J.length) md (nI D.length) kc gn sp nc bc kn))) (CD : mD h D) (CA : yA h ad sa F A) (G : Nat → Int32) (c35 : h[35]? = some (.inl (4, 8, .inl G))) (K : Nat → Prop) (hG : ∀ j, j < A.length → G j = tB (K j)) (h1 : ∀ j, K0 j → K j) (h2 : ∀ j, K j → ∃ r, A[j]? = some (some r) ∧ rcd D (A.filterMap id) r) (M : Prop) (h3 : M → ∃ j, j < A.length ∧ K j ∧ ¬ K0 j) (h4 : ¬ M → ∀ (j : Nat) r, j < i → A[j]? = some (some r) → nR D A K (lNm r) → K j) (x5 x6 x7 : Option Value) : rt_ X (d + 4) 164 31 [some (.ref 23), some (.ref sa), some (.int (nI A.length)), some (.int (tB M)), some (.int (nI i)), x5, x6, x7] [] h Q := by
  obtain ⟨ca, hA, HA⟩ := id CA
  refine rt_k (k := 2) (pc' := 34) (L' := [some (.ref 23), some (.ref sa), some (.int (nI A.length)), some (.int (tB M)), some (.int (nI i)), x5, x6, x7]) (st' := [.int (nI A.length), .int (nI i)]) (h' := h) (fun _ => by first | rfl | (cases x5 <;> rfl) | (cases x6 <;> rfl) | (cases x7 <;> rfl)) ?_
  refine rt_ige rfl (by omega) (by omega) (fun z0 => ?_) (fun z0 => ?_)
  ·
    refine rt_k (k := 1) (pc' := 22) (L' := [some (.ref 23), some (.ref sa), some (.int (nI A.length)), some (.int (tB M)), some (.int (nI i)), x5, x6, x7]) (st' := []) (h' := h) (fun _ => by first | rfl | (cases x5 <;> rfl) | (cases x6 <;> rfl) | (cases x7 <;> rfl)) ?_
    exact kf h G K M _ _ _ _ FR c35 hG h1 h2 h3 (fun q j r hj => h4 q j r (by have := gt_lt hj; omega) hj)
  obtain ⟨x0, hx⟩ := gt_ex z0
  have Y0 := HA i x0 hx
  have skip : (∀ r, x0 = some r → nR D A K (lNm r) → K i) → ¬ M → ∀ (j : Nat) r, j < i + 1 → A[j]? = some (some r) → nR D A K (lNm r) → K j := fun hn q j r hj hr hy => by
    by_cases y : j = i
    · subst y; rw [hx] at hr; cases hr; exact hn r rfl hy
    · exact h4 q j r (by omega) hr hy
  cases x0 with
  | none =>
    have f1 : F i = none := Y0
    refine rt_k (k := 2) (pc' := 40) (L' := [some (.ref 23), some (.ref sa), some (.int (nI A.length)), some (.int (tB M)), some (.int (nI i)), x5, x6, x7]) (st' := [.int (nI i), .ref sa]) (h' := h) (fun _ => by first | rfl | (cases x5 <;> rfl) | (cases x6 <;> rfl) | (cases x7 <;> rfl)) ?_
    refine rt_aalO rfl ca rfl (by omega) (by decide) f1 ?_
    refine rt_k (k := 1) (pc' := 187) (L' := [some (.ref 23), some (.ref sa), some (.int (nI A.length)), some (.int (tB M)), some (.int (nI i)), x5, x6, x7]) (st' := []) (h' := h) (fun _ => by first | rfl | (cases x5 <;> rfl) | (cases x6 <;> rfl) | (cases x7 <;> rfl)) ?_
    refine rt_inc (c := 1) rfl rfl ?_
    refine rt_k (k := 1) (pc' := 31) (L' := [some (.ref 23), some (.ref sa), some (.int (nI A.length)), some (.int (tB M)), some (.int (nI (i + 1))), x5, x6, x7]) (st' := []) (h' := h) (fun _ => by first | rfl | (cases x5 <;> rfl) | (cases x6 <;> rfl) | (cases x7 <;> rfl)) ?_
    exact m_ar1 hsa K0 kf (i + 1) z0 h FR c23 CD CA G c35 K hG h1 h2 M h3 (skip (fun r q => by cases q)) _ _ _
  | some r =>
    obtain ⟨f1, Yr⟩ := Y0
    have gi := hG i z0
    obtain ⟨nm2, ve2, nd2, nr2, bk2, br2, ow2, NF2, RF2, BF2, QF2, OF2, ⟨zr2, cr2⟩, ⟨-, cnd2⟩, ⟨-, cnr2⟩, ⟨-, cbk2⟩, ⟨-, cbr2⟩, ⟨-, cow2⟩, hln2, Sn2, Vn2, DN2, DB2, WO2⟩ := id (Yr)
    refine rt_k (k := 2) (pc' := 40) (L' := [some (.ref 23), some (.ref sa), some (.int (nI A.length)), some (.int (tB M)), some (.int (nI i)), x5, x6, x7]) (st' := [.int (nI i), .ref sa]) (h' := h) (fun _ => by first | rfl | (cases x5 <;> rfl) | (cases x6 <;> rfl) | (cases x7 <;> rfl)) ?_
    refine rt_aalN rfl ca rfl (by omega) (by decide) f1 ?_
    refine rt_k (k := 2) (pc' := 45) (L' := [some (.ref 23), some (.ref sa), some (.int (nI A.length)), some (.int (tB M)), some (.int (nI i)), x5, x6, x7]) (st' := [.ref 23]) (h' := h) (fun _ => by first | rfl | (cases x5 <;> rfl) | (cases x6 <;> rfl) | (cases x7 <;> rfl)) ?_
    refine rt_gf rfl c23 rfl rfl ?_
    refine rt_k (k := 1) (pc' := 50) (L' := [some (.ref 23), some (.ref sa), some (.int (nI A.length)), some (.int (tB M)), some (.int (nI i)), x5, x6, x7]) (st' := [.int (nI i), .ref 35]) (h' := h) (fun _ => by first | rfl | (cases x5 <;> rfl) | (cases x6 <;> rfl) | (cases x7 <;> rfl)) ?_
    refine rt_zalN rfl c35 rfl (by omega) (by decide) gi ?_
    refine rt_pe rfl (fun z1 => ?_) (fun z1 => ?_)
    rotate_left
    ·
      refine rt_k (k := 1) (pc' := 187) (L' := [some (.ref 23), some (.ref sa), some (.int (nI A.length)), some (.int (tB M)), some (.int (nI i)), x5, x6, x7]) (st' := []) (h' := h) (fun _ => by first | rfl | (cases x5 <;> rfl) | (cases x6 <;> rfl) | (cases x7 <;> rfl)) ?_
      refine rt_inc (c := 1) rfl rfl ?_
      refine rt_k (k := 1) (pc' := 31) (L' := [some (.ref 23), some (.ref sa), some (.int (nI A.length)), some (.int (tB M)), some (.int (nI (i + 1))), x5, x6, x7]) (st' := []) (h' := h) (fun _ => by first | rfl | (cases x5 <;> rfl) | (cases x6 <;> rfl) | (cases x7 <;> rfl)) ?_
      exact m_ar1 hsa K0 kf (i + 1) z0 h FR c23 CD CA G c35 K hG h1 h2 M h3 (skip (fun r' q _ => z1)) _ _ _
    have go : ∀ (P : Prop) c, (P ↔ ∃ e ∈ D, e.1 = lNm r) → c = tB P → rt_ X (d + 4) 164 76 [some (.ref 23), some (.ref sa), some (.int (nI A.length)), some (.int (tB M)), some (.int (nI i)), x5, x6, x7] [.int c] h Q := fun P c hP hc => by
      subst hc
      refine rt_k (k := 3) (pc' := 81) (L' := [some (.ref 23), some (.ref sa), some (.int (nI A.length)), some (.int (tB M)), some (.int (nI i)), some (.int (tB P)), some (.int (nI 0)), x7]) (st' := []) (h' := h) (fun _ => by first | rfl | (cases x5 <;> rfl) | (cases x6 <;> rfl) | (cases x7 <;> rfl)) ?_
      refine m_ar2 c23 c35 hG CA hx (fun y6 y7 => ?_) _ 0 (Nat.zero_le _) P ⟨Or.inl, fun q => q.elim id (fun ⟨j, s, q, _⟩ => absurd q (Nat.not_lt_zero _))⟩
      have en : (P ∨ ∃ (j : Nat) (s : kL), A[j]? = some (some s) ∧ K j ∧ ∃ e ∈ lNe s, e.1 = lNm r) ↔ nR D A K (lNm r) := or_congr hP Iff.rfl
      rw [tB_c en]
      refine rt_k (k := 1) (pc' := 171) (L' := [some (.ref 23), some (.ref sa), some (.int (nI A.length)), some (.int (tB M)), some (.int (nI i)), some (.int (tB (nR D A K (lNm r)))), y6, y7]) (st' := [.int (tB (nR D A K (lNm r)))]) (h' := h) (fun _ => by first | rfl | (cases y6 <;> rfl) | (cases y7 <;> rfl)) ?_
      refine rt_pn rfl (fun z2 => ?_) (fun z2 => ?_)
      rotate_left
      ·
        refine rt_k (k := 1) (pc' := 187) (L' := [some (.ref 23), some (.ref sa), some (.int (nI A.length)), some (.int (tB M)), some (.int (nI i)), some (.int (tB (nR D A K (lNm r)))), y6, y7]) (st' := []) (h' := h) (fun _ => by first | rfl | (cases y6 <;> rfl) | (cases y7 <;> rfl)) ?_
        refine rt_inc (c := 1) rfl rfl ?_
        refine rt_k (k := 1) (pc' := 31) (L' := [some (.ref 23), some (.ref sa), some (.int (nI A.length)), some (.int (tB M)), some (.int (nI (i + 1))), some (.int (tB (nR D A K (lNm r)))), y6, y7]) (st' := []) (h' := h) (fun _ => by first | rfl | (cases y6 <;> rfl) | (cases y7 <;> rfl)) ?_
        exact m_ar1 hsa K0 kf (i + 1) z0 h FR c23 CD CA G c35 K hG h1 h2 M h3 (skip (fun r' q hy => by cases q; exact absurd hy z2)) _ _ _
      refine rt_k (k := 1) (pc' := 178) (L' := [some (.ref 23), some (.ref sa), some (.int (nI A.length)), some (.int (tB M)), some (.int (nI i)), some (.int (tB (nR D A K (lNm r)))), y6, y7]) (st' := [.ref 23]) (h' := h) (fun _ => by first | rfl | (cases y6 <;> rfl) | (cases y7 <;> rfl)) ?_
      refine rt_gf rfl c23 rfl rfl ?_
      refine rt_k (k := 2) (pc' := 184) (L' := [some (.ref 23), some (.ref sa), some (.int (nI A.length)), some (.int (tB M)), some (.int (nI i)), some (.int (tB (nR D A K (lNm r)))), y6, y7]) (st' := [.int (nI 1), .int (nI i), .ref 35]) (h' := h) (fun _ => by first | rfl | (cases y6 <;> rfl) | (cases y7 <;> rfl)) ?_
      refine rt_zasN rfl c35 rfl (by omega) (by decide) ?_
      refine rt_nm (fun h_7 e_8 => ?_)
      have f_9 : fr_ (fun z => z = 35) h h_7 := by rw [e_8]; exact fr_set (e' := .inl (4, 8, .inl (upd G i (vp_nar .boolean (nI 1))))) c35 (by rfl) (by first | decide | simp)
      have n_10 : h_7.length = h.length := by rw [e_8]; simp
      have c_11 : h_7[23]? = some (.inr (12, [.ref 24, .int x, .ref 25, .int y, .int z, .ref 26, .int (nI J.length), .int md, .ref 27, .ref 28, .int (nI D.length), .ref 29, .int kc, .int gn, .ref 30, .ref 31, .int sp, .ref 32, .int nc, .ref 33, .ref 34, .int bc, .int kn, .ref 35])) := by rw [e_8]; exact hs_ne c23 (by decide)
      have c_12 : h_7[sa]? = some (.inl (10, 8, .inr (.inr (.inr (.inr F))))) := by rw [e_8]; exact hs_ne ca (fun q => hsa q.symm)
      have c_13 : h_7[35]? = some (.inl (4, 8, .inl (upd G i (vp_nar .boolean (nI 1))))) := by rw [e_8]; exact hs_self c35
      refine rt_k (k := 2) (pc' := 187) (L' := [some (.ref 23), some (.ref sa), some (.int (nI A.length)), some (.int (nI 1)), some (.int (nI i)), some (.int (tB (nR D A K (lNm r)))), y6, y7]) (st' := []) (h' := h_7) (fun _ => by first | rfl | (cases y6 <;> rfl) | (cases y7 <;> rfl)) ?_
      refine rt_inc (c := 1) rfl rfl ?_
      refine rt_k (k := 1) (pc' := 31) (L' := [some (.ref 23), some (.ref sa), some (.int (nI A.length)), some (.int (nI 1)), some (.int (nI (i + 1))), some (.int (tB (nR D A K (lNm r)))), y6, y7]) (st' := []) (h' := h_7) (fun _ => by first | rfl | (cases y6 <;> rfl) | (cases y7 <;> rfl)) ?_
      have FF := f_9
      have E := fr_ex FF (fun k q => by unfold zz at q; omega)
      have k3 := c_11
      have k5 := c_13
      have eM : nI 1 = tB True := tF1 trivial
      rw [eM]
      have rr : rcd D (A.filterMap id) r := by
        rcases z2 with ⟨e, he, q⟩ | ⟨j, s, hj, hk, q⟩
        · exact ⟨1, Or.inr ⟨fm_in.mpr ⟨i, hx⟩, Or.inl ⟨e, he, q⟩⟩⟩
        · obtain ⟨s', hs', n, hn⟩ := h2 j hk
          rw [hj] at hs'
          cases hs'
          exact ⟨n + 1, Or.inr ⟨fm_in.mpr ⟨i, hx⟩, Or.inr ⟨s, fm_in.mpr ⟨j, hj⟩, hn, q⟩⟩⟩
      refine m_ar1 hsa K0 kf (i + 1) z0 _ (fr_tr FR FF) k3 (CD.ex E (FF.2.2 27 (by decide)) (FF.2.2 28 (by decide))) (CA.ex E (FF.2.2 sa hsa)) _ k5 (fun j => K j ∨ j = i) (fun j hj => ?_) (fun j hj => Or.inl (h1 j hj)) (fun j hj => ?_) True (fun _ => ⟨i, z0, Or.inr rfl, fun q => z1 (h1 i q)⟩) (fun q => absurd trivial q) _ _ _
      · unfold upd
        by_cases y : j = i
        · rw [if_pos y, vb1]; exact tF1 (Or.inr y)
        · rw [if_neg y, hG j hj]; exact tB_c ⟨Or.inl, fun q => q.elim id (fun q => absurd q y)⟩
      · rcases hj with q | q
        · exact h2 j q
        · subst q; exact ⟨r, hx, rr⟩
    refine rt_k (k := 3) (pc' := 61) (L' := [some (.ref 23), some (.ref sa), some (.int (nI A.length)), some (.int (tB M)), some (.int (nI i)), x5, x6, x7]) (st' := [.int (nI i), .ref sa, .ref 23]) (h' := h) (fun _ => by first | rfl | (cases x5 <;> rfl) | (cases x6 <;> rfl) | (cases x7 <;> rfl)) ?_
    refine rt_aalN rfl ca rfl (by omega) (by decide) f1 ?_
    refine rt_gf rfl cr2 rfl rfl ?_
    refine rt_cvH rfl (by decide) c23 rfl rfl rfl rfl (m_rootOf (d := d + 1) c23 rfl CD Sn2) ?_
    rintro _ (⟨p, e, hp, q1, q2, rfl⟩ | ⟨q1, rfl⟩)
    · have lp := gt_lt hp
      have hD6 := CD.choose_spec.choose_spec.2.2.1
      refine rt_zlt rfl (by omega) ?_
      refine rt_k (k := 2) (pc' := 76) (L' := [some (.ref 23), some (.ref sa), some (.int (nI A.length)), some (.int (tB M)), some (.int (nI i)), x5, x6, x7]) (st' := [.int (nI 1)]) (h' := h) (fun _ => by first | rfl | (cases x5 <;> rfl) | (cases x6 <;> rfl) | (cases x7 <;> rfl)) ?_
      exact go True _ ⟨fun _ => ⟨e, List.mem_of_getElem? hp, q1⟩, fun _ => trivial⟩ (tF1 trivial)
    · have t0 := trivial
      refine rt_k (k := 2) (pc' := 76) (L' := [some (.ref 23), some (.ref sa), some (.int (nI A.length)), some (.int (tB M)), some (.int (nI i)), x5, x6, x7]) (st' := [.int (nI 0)]) (h' := h) (fun _ => by first | rfl | (cases x5 <;> rfl) | (cases x6 <;> rfl) | (cases x7 <;> rfl)) ?_
      exact go False _ ⟨fun q => absurd q id, fun ⟨e, he, q⟩ => q1 e he q⟩ (tF0 id)
termination_by A.length - i
/-- the answer -/
theorem m_ar9 {K : Nat → Prop} {G : Nat → Int32} (c23 : h[23]? = some (mo x y z (mq (nI J.length) md (nI D.length) kc gn sp nc bc kn))) (c35 : h[35]? = some (.inl (4, 8, .inl G))) (hG : ∀ j, j < A.length → G j = tB (K j)) (CA : yA h ad sa F A) (x3 : Int32) (x5 x6 x7 : Option Value) (i : Nat) (hi : i ≤ A.length) (H : ∀ (j : Nat) r, j < i → A[j]? = some (some r) → K j) (kt : (∀ (j : Nat) r, A[j]? = some (some r) → K j) → Q (some (.int (nI 1))) h) (kn : (∃ (j : Nat) (r : kL), A[j]? = some (some r) ∧ ¬ K j) → Q (some (.int (nI 0))) h) : rt_ X (d + 4) 164 199 [some (.ref 23), some (.ref sa), some (.int (nI A.length)), some (.int x3), some (.int (nI i)), x5, x6, x7] [] h Q := by
  obtain ⟨ca, hA, HA⟩ := id CA
  refine rt_k (k := 2) (pc' := 202) (L' := [some (.ref 23), some (.ref sa), some (.int (nI A.length)), some (.int x3), some (.int (nI i)), x5, x6, x7]) (st' := [.int (nI A.length), .int (nI i)]) (h' := h) (fun _ => by first | rfl | (cases x5 <;> rfl) | (cases x6 <;> rfl) | (cases x7 <;> rfl)) ?_
  refine rt_ige rfl (by omega) (by omega) (fun z0 => ?_) (fun z0 => ?_)
  ·
    refine rt_k (k := 1) (pc' := 231) (L' := [some (.ref 23), some (.ref sa), some (.int (nI A.length)), some (.int x3), some (.int (nI i)), x5, x6, x7]) (st' := [.int (nI 1)]) (h' := h) (fun _ => by first | rfl | (cases x5 <;> rfl) | (cases x6 <;> rfl) | (cases x7 <;> rfl)) ?_
    exact rt_r (v := some (.int (nI 1))) rfl rfl (kt (fun j r hj => H j r (by have := gt_lt hj; omega) hj))
  obtain ⟨x0, hx⟩ := gt_ex z0
  have Y0 := HA i x0 hx
  cases x0 with
  | none =>
    have f1 : F i = none := Y0
    refine rt_k (k := 2) (pc' := 208) (L' := [some (.ref 23), some (.ref sa), some (.int (nI A.length)), some (.int x3), some (.int (nI i)), x5, x6, x7]) (st' := [.int (nI i), .ref sa]) (h' := h) (fun _ => by first | rfl | (cases x5 <;> rfl) | (cases x6 <;> rfl) | (cases x7 <;> rfl)) ?_
    refine rt_aalO rfl ca rfl (by omega) (by decide) f1 ?_
    refine rt_k (k := 1) (pc' := 224) (L' := [some (.ref 23), some (.ref sa), some (.int (nI A.length)), some (.int x3), some (.int (nI i)), x5, x6, x7]) (st' := []) (h' := h) (fun _ => by first | rfl | (cases x5 <;> rfl) | (cases x6 <;> rfl) | (cases x7 <;> rfl)) ?_
    refine rt_inc (c := 1) rfl rfl ?_
    refine rt_k (k := 1) (pc' := 199) (L' := [some (.ref 23), some (.ref sa), some (.int (nI A.length)), some (.int x3), some (.int (nI (i + 1))), x5, x6, x7]) (st' := []) (h' := h) (fun _ => by first | rfl | (cases x5 <;> rfl) | (cases x6 <;> rfl) | (cases x7 <;> rfl)) ?_
    exact m_ar9 c23 c35 hG CA x3 _ _ _ (i + 1) z0 (fun j r hj hr => by
      by_cases y : j = i
      · subst y; rw [hx] at hr; cases hr
      · exact H j r (by omega) hr) kt kn
  | some r =>
    obtain ⟨f1, Yr⟩ := Y0
    have gi := hG i z0
    refine rt_k (k := 2) (pc' := 208) (L' := [some (.ref 23), some (.ref sa), some (.int (nI A.length)), some (.int x3), some (.int (nI i)), x5, x6, x7]) (st' := [.int (nI i), .ref sa]) (h' := h) (fun _ => by first | rfl | (cases x5 <;> rfl) | (cases x6 <;> rfl) | (cases x7 <;> rfl)) ?_
    refine rt_aalN rfl ca rfl (by omega) (by decide) f1 ?_
    refine rt_k (k := 2) (pc' := 213) (L' := [some (.ref 23), some (.ref sa), some (.int (nI A.length)), some (.int x3), some (.int (nI i)), x5, x6, x7]) (st' := [.ref 23]) (h' := h) (fun _ => by first | rfl | (cases x5 <;> rfl) | (cases x6 <;> rfl) | (cases x7 <;> rfl)) ?_
    refine rt_gf rfl c23 rfl rfl ?_
    refine rt_k (k := 1) (pc' := 218) (L' := [some (.ref 23), some (.ref sa), some (.int (nI A.length)), some (.int x3), some (.int (nI i)), x5, x6, x7]) (st' := [.int (nI i), .ref 35]) (h' := h) (fun _ => by first | rfl | (cases x5 <;> rfl) | (cases x6 <;> rfl) | (cases x7 <;> rfl)) ?_
    refine rt_zalN rfl c35 rfl (by omega) (by decide) gi ?_
    refine rt_pn rfl (fun z1 => ?_) (fun z1 => ?_)
    rotate_left
    ·
      refine rt_k (k := 1) (pc' := 223) (L' := [some (.ref 23), some (.ref sa), some (.int (nI A.length)), some (.int x3), some (.int (nI i)), x5, x6, x7]) (st' := [.int (nI 0)]) (h' := h) (fun _ => by first | rfl | (cases x5 <;> rfl) | (cases x6 <;> rfl) | (cases x7 <;> rfl)) ?_
      exact rt_r (v := some (.int (nI 0))) rfl rfl (kn ⟨i, r, hx, z1⟩)
    refine rt_inc (c := 1) rfl rfl ?_
    refine rt_k (k := 1) (pc' := 199) (L' := [some (.ref 23), some (.ref sa), some (.int (nI A.length)), some (.int x3), some (.int (nI (i + 1))), x5, x6, x7]) (st' := []) (h' := h) (fun _ => by first | rfl | (cases x5 <;> rfl) | (cases x6 <;> rfl) | (cases x7 <;> rfl)) ?_
    exact m_ar9 c23 c35 hG CA x3 _ _ _ (i + 1) z0 (fun j r hj hr => by
      by_cases y : j = i
      · subst y; exact z1
      · exact H j r (by omega) hr) kt kn
termination_by A.length - i
def arP (h0 : List va_E) (D : kD) (S : List kL) (v : Option Value) (h' : List va_E) : Prop := fr_ (fun z => z = 35) h0 h' ∧ (∃ G : Nat → Int32, h'[35]? = some (.inl (4, 8, .inl G))) ∧ v = some (.int (tB (∀ r ∈ S, rcd D S r)))
theorem m_ar8 {h0 : List va_E} (hsa : ¬ sa = 35) (b : Nat) (h : List va_E) (FR : fr_ (fun z => z = 35) h0 h) (c23 : h[23]? = some (mo x y z (mq (nI J.length) md (nI D.length) kc gn sp nc bc kn))) (CD : mD h D) (CA : yA h ad sa F A) (G : Nat → Int32) (c35 : h[35]? = some (.inl (4, 8, .inl G))) (K : Nat → Prop) (hG : ∀ j, j < A.length → G j = tB (K j)) (h2 : ∀ j, K j → ∃ r, A[j]? = some (some r) ∧ rcd D (A.filterMap id) r) (hb : crd (fun j => ¬ K j) A.length < b) (M : Prop) (h4 : ¬ M → ∀ (j : Nat) r, A[j]? = some (some r) → nR D A K (lNm r) → K j) (x4 x5 x6 x7 : Option Value) : rt_ X (d + 4) 164 22 [some (.ref 23), some (.ref sa), some (.int (nI A.length)), some (.int (tB M)), x4, x5, x6, x7] [] h (arP h0 D (A.filterMap id)) := by
  refine rt_k (k := 1) (pc' := 23) (L' := [some (.ref 23), some (.ref sa), some (.int (nI A.length)), some (.int (tB M)), x4, x5, x6, x7]) (st' := [.int (tB M)]) (h' := h) (fun _ => by first | rfl | (cases x4 <;> rfl) | (cases x5 <;> rfl) | (cases x6 <;> rfl) | (cases x7 <;> rfl)) ?_
  refine rt_pe rfl (fun z0 => ?_) (fun z0 => ?_)
  ·
    refine rt_k (k := 2) (pc' := 199) (L' := [some (.ref 23), some (.ref sa), some (.int (nI A.length)), some (.int (tB M)), some (.int (nI 0)), x5, x6, x7]) (st' := []) (h' := h) (fun _ => by first | rfl | (cases x4 <;> rfl) | (cases x5 <;> rfl) | (cases x6 <;> rfl) | (cases x7 <;> rfl)) ?_
    have all : ∀ n r, rcn D (A.filterMap id) n r → ∀ j : Nat, A[j]? = some (some r) → K j := fun n => by
      induction n with
      | zero => exact fun r q => absurd q id
      | succ n ih =>
        intro r q j hj
        rcases q with q | ⟨_, q⟩
        · exact ih r q j hj
        · refine h4 z0 j r hj ?_
          rcases q with q | ⟨s, hs, q1, q2⟩
          · exact Or.inl q
          · obtain ⟨j', hj'⟩ := fm_in.mp hs
            exact Or.inr ⟨j', s, hj', ih s q1 j' hj', q2⟩
    refine m_ar9 c23 c35 hG CA _ _ _ _ 0 (Nat.zero_le _) (fun j r hj => absurd hj (Nat.not_lt_zero _)) (fun H => ⟨FR, ⟨G, c35⟩, ret1 (fun r hr => ?_)⟩) (fun ⟨j, r, hj, q⟩ => ⟨FR, ⟨G, c35⟩, ret0 (fun y => ?_)⟩)
    · obtain ⟨j, hj⟩ := fm_in.mp hr
      obtain ⟨r', hr', y⟩ := h2 j (H j r hj)
      rw [hj] at hr'
      cases hr'
      exact y
    · obtain ⟨n, hn⟩ := y r (fm_in.mpr ⟨j, hj⟩)
      exact q (all n r hn j hj)
  refine rt_k (k := 4) (pc' := 31) (L' := [some (.ref 23), some (.ref sa), some (.int (nI A.length)), some (.int (nI 0)), some (.int (nI 0)), x5, x6, x7]) (st' := []) (h' := h) (fun _ => by first | rfl | (cases x4 <;> rfl) | (cases x5 <;> rfl) | (cases x6 <;> rfl) | (cases x7 <;> rfl)) ?_
  have e00 : nI 0 = tB False := tF0 id
  rw [show ([some (.ref 23), some (.ref sa), some (.int (nI A.length)), some (.int (nI 0)), some (.int (nI 0)), x5, x6, x7] : List (Option Value)) = [some (.ref 23), some (.ref sa), some (.int (nI A.length)), some (.int (tB False)), some (.int (nI 0)), x5, x6, x7] from by rw [← e00]]
  refine m_ar1 hsa K (fun h' G' K' M' y4 y5 y6 y7 b1 b2 b3 b4 b5 b6 b7 => ?_) 0 (Nat.zero_le _) h FR c23 CD CA G c35 K hG (fun _ => id) h2 False (fun q => absurd q id) (fun _ j r hj => absurd hj (Nat.not_lt_zero _)) _ _ _
  have F0 : fr_ (fun z => z = 35) h h' := ⟨by rw [b1.1, FR.1], by rw [b1.2.1, FR.2.1], fun k hk => by rw [b1.2.2 k hk, FR.2.2 k hk]⟩
  have E := fr_ex F0 (fun k q => by unfold zz at q; omega)
  by_cases hM : M'
  · obtain ⟨j, q1, q2, q3⟩ := b6 hM
    have := crd_lt (p := fun j => ¬ K' j) (q := fun j => ¬ K j) (i := j) A.length (fun i _ y z => y (b4 i z)) q1 q3 (fun y => y q2)
    exact m_ar8 hsa (b - 1) h' b1 (fr_at F0 (by decide) c23) (CD.ex E (F0.2.2 27 (by decide)) (F0.2.2 28 (by decide))) (CA.ex E (F0.2.2 sa hsa)) G' b2 K' b3 b5 (by omega) M' b7 _ _ _ _
  · have t0 := b7 hM
    rw [tB_c (show M' ↔ False from ⟨fun q => hM q, fun q => absurd q id⟩)]
    have c23' := fr_at F0 (by decide) c23
    have CA' := CA.ex E (F0.2.2 sa hsa)
    have all : ∀ n r, rcn D (A.filterMap id) n r → ∀ j : Nat, A[j]? = some (some r) → K' j := fun n => by
      induction n with
      | zero => exact fun r q => absurd q id
      | succ n ih =>
        intro r q j hj
        rcases q with q | ⟨_, q⟩
        · exact ih r q j hj
        · refine t0 j r hj ?_
          rcases q with q | ⟨s, hs, q1, q2⟩
          · exact Or.inl q
          · obtain ⟨j', hj'⟩ := fm_in.mp hs
            exact Or.inr ⟨j', s, hj', ih s q1 j' hj', q2⟩
    refine rt_k (k := 1) (pc' := 23) (L' := [some (.ref 23), some (.ref sa), some (.int (nI A.length)), some (.int (tB False)), y4, y5, y6, y7]) (st' := [.int (tB False)]) (h' := h') (fun _ => by first | rfl | (cases y4 <;> rfl) | (cases y5 <;> rfl) | (cases y6 <;> rfl) | (cases y7 <;> rfl)) ?_
    refine rt_pe rfl (fun _ => ?_) (fun z => absurd z ((fun q => q)))
    refine rt_k (k := 2) (pc' := 199) (L' := [some (.ref 23), some (.ref sa), some (.int (nI A.length)), some (.int (tB False)), some (.int (nI 0)), y5, y6, y7]) (st' := []) (h' := h') (fun _ => by first | rfl | (cases y4 <;> rfl) | (cases y5 <;> rfl) | (cases y6 <;> rfl) | (cases y7 <;> rfl)) ?_
    refine m_ar9 c23' b2 b3 CA' _ _ _ _ 0 (Nat.zero_le _) (fun j r hj => absurd hj (Nat.not_lt_zero _)) (fun H => ⟨b1, ⟨G', b2⟩, ret1 (fun r hr => ?_)⟩) (fun ⟨j, r, hj, q⟩ => ⟨b1, ⟨G', b2⟩, ret0 (fun y => ?_)⟩)
    · obtain ⟨j, hj⟩ := fm_in.mp hr
      obtain ⟨r', hr', y⟩ := b5 j (H j r hj)
      rw [hj] at hr'
      cases hr'
      exact y
    · obtain ⟨n, hn⟩ := y r (fm_in.mpr ⟨j, hj⟩)
      exact q (all n r hn j hj)
termination_by b
theorem m_allReached (hsa : ¬ sa = 35) (c23 : h[23]? = some (mo x y z (mq (nI J.length) md (nI D.length) kc gn sp nc bc kn))) (CD : mD h D) (CA : yA h ad sa F A) (G : Nat → Int32) (c35 : h[35]? = some (.inl (4, 8, .inl G))) : rt_ X (d + 4) 164 0 [some (.ref 23), some (.ref sa), some (.int (nI A.length)), none, none, none, none, none] [] h (arP h D (A.filterMap id)) := by
  refine rt_k (k := 2) (pc' := 2) (L' := [some (.ref 23), some (.ref sa), some (.int (nI A.length)), some (.int (nI 0)), none, none, none, none]) (st' := []) (h' := h) (fun _ => rfl) ?_
  refine m_ar0 (h0 := h) (sa := sa) CA.2.1 none none none none 0 (Nat.zero_le _) h c23 G c35 (fun j hj => absurd hj (Nat.not_lt_zero _)) fr_rf (fun h' G' F' b1 b2 => ?_)
  have E := fr_ex F' (fun k q => by unfold zz at q; omega)
  refine rt_k (k := 2) (pc' := 22) (L' := [some (.ref 23), some (.ref sa), some (.int (nI A.length)), some (.int (nI 1)), none, none, none, none]) (st' := []) (h' := h') (fun _ => rfl) ?_
  rw [show nI 1 = tB True from tF1 trivial]
  exact m_ar8 hsa _ h' F' (fr_at F' (by decide) c23) (CD.ex E (F'.2.2 27 (by decide)) (F'.2.2 28 (by decide))) (CA.ex E (F'.2.2 sa hsa)) G' b1 (fun _ => False) (fun j hj => by rw [b2 j hj]; exact tF0 id) (fun j q => absurd q id) (Nat.lt_succ_self _) True (fun q => absurd trivial q) none none none none
def vaP (h0 : List va_E) (D : kD) (S : List kL) (v : Option Value) (h' : List va_E) : Prop := fr_ (fun z => z = 35) h0 h' ∧ (∃ G : Nat → Int32, h'[35]? = some (.inl (4, 8, .inl G))) ∧ v = some (.int (tB (vl D S)))
theorem m_valid (hsa : ¬ sa = 35) (c23 : h[23]? = some (mo x y z (mq (nI J.length) md (nI D.length) kc gn sp nc bc kn))) (CD : mD h D) (CA : yA h ad sa F A) (U : dsA A) (G : Nat → Int32) (c35 : h[35]? = some (.inl (4, 8, .inl G))) : rt_ X (d + 10) 159 0 [some (.ref 23), some (.ref sa), some (.int (nI A.length)), none, none, none, none] [] h (vaP h D (A.filterMap id)) := by
  have no : ¬ vl D (A.filterMap id) → vaP h D (A.filterMap id) (some (.int (nI 0))) h := fun q => ⟨fr_rf, ⟨G, c35⟩, ret0 q⟩
  refine rt_k (k := 2) (pc' := 2) (L' := [some (.ref 23), some (.ref sa), some (.int (nI A.length)), some (.int (nI 0)), none, none, none]) (st' := []) (h' := h) (fun _ => rfl) ?_
  refine m_va1 c23 CD CA U none none none (fun ⟨e, he, q⟩ => no (fun y => q (y.1 e he))) (fun y4 H1 => ?_) 0 (Nat.zero_le _) (fun j e hj => absurd hj (Nat.not_lt_zero _))
  refine rt_k (k := 2) (pc' := 55) (L' := [some (.ref 23), some (.ref sa), some (.int (nI A.length)), some (.int (nI 0)), y4, none, none]) (st' := []) (h' := h) (fun _ => by first | rfl | (cases y4 <;> rfl)) ?_
  refine m_va4 CA U (fun ⟨r, hr, q⟩ => no (fun y => q (y.2.1 r hr))) (fun y4 y5 y6 H2 => ?_) 0 (Nat.zero_le _) (fun j r hj => absurd hj (Nat.not_lt_zero _)) _ _ _
  refine rt_k (k := 3) (pc' := 202) (L' := [some (.ref 23), some (.ref sa), some (.int (nI A.length)), some (.int (nI A.length)), y4, y5, y6]) (st' := [.int (nI A.length), .ref sa, .ref 23]) (h' := h) (fun _ => by first | rfl | (cases y4 <;> rfl) | (cases y5 <;> rfl) | (cases y6 <;> rfl)) ?_
  refine rt_cv rfl (by decide) c23 rfl rfl rfl rfl (m_allReached (d := d + 5) hsa c23 CD CA G c35) ?_
  rintro _ h1 ⟨b1, b2, rfl⟩
  exact rt_r (v := some (.int (tB (∀ r ∈ A.filterMap id, rcd D (A.filterMap id) r)))) rfl (rtT rfl rfl) (⟨b1, b2, congrArg (fun x => some (Value.int x)) (tB_c ⟨fun q => ⟨H1, H2, q⟩, fun q => q.2.2⟩)⟩)
end NB

