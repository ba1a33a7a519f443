/-! THE REFERENCE, 35: current, rollback, step, count, owner. -/
section NK
variable {X : Nat × (Nat → Int32)} {d : Nat} {h : List va_E} {Q : Option Value → List va_E → Prop} {ad : Nat → Nat} {T : List Nat} {J : List kL} {nx : Nat} {D : kD} {K : List kG} {made : Nat} {st : kS}
variable {nw pa nc bc kn : Int32} {g : kG}
theorem m_cur (c23 : h[23]? = some (mo (nI T.length) nw pa (mq (nI J.length) (nI nx) (nI D.length) (nI K.length) (nI made) (nI st.length) nc bc kn))) (CK : mKs h ad K) (hg : K[K.length - 1]? = some g) : rt_ X d 168 0 [some (.ref 23)] [] h (fun v h' => h' = h ∧ ∃ a, v = some (.ref a) ∧ yG h ad a g) := by
  obtain ⟨KF, c29, k1, k4, HK⟩ := id CK
  obtain ⟨a, f1, YG⟩ := HK _ g hg
  refine rt_k (k := 1) (pc' := 1) (L' := [some (.ref 23)]) (st' := [.ref 23]) (h' := h) (fun _ => rfl) ?_
  refine rt_gf rfl c23 rfl rfl ?_
  refine rt_k (k := 1) (pc' := 5) (L' := [some (.ref 23)]) (st' := [.ref 23, .ref 29]) (h' := h) (fun _ => rfl) ?_
  refine rt_gf rfl c23 rfl rfl ?_
  refine rt_k (k := 1) (pc' := 9) (L' := [some (.ref 23)]) (st' := [.int (nI 1), .int (nI K.length), .ref 29]) (h' := h) (fun _ => rfl) ?_
  refine rt_sub rfl (by omega) ?_
  refine rt_aalN rfl c29 rfl (by omega) (by decide) f1 ?_
  exact rt_r (v := some (.ref a)) rfl rfl (⟨rfl, a, rfl, YG⟩)
theorem m_cur0 {tl : Int32} (c23 : h[23]? = some (mo tl nw pa (mq (nI J.length) (nI nx) (nI D.length) (nI K.length) (nI made) (nI st.length) nc bc kn))) (CK : mKs h ad K) (hg : K[K.length - 1]? = some g) : rt_ X d 168 0 [some (.ref 23)] [] h (fun v h' => h' = h ∧ ∃ a, v = some (.ref a) ∧ yG h ad a g) := by
  obtain ⟨KF, c29, k1, k4, HK⟩ := id CK
  obtain ⟨a, f1, YG⟩ := HK _ g hg
  refine rt_k (k := 1) (pc' := 1) (L' := [some (.ref 23)]) (st' := [.ref 23]) (h' := h) (fun _ => rfl) ?_
  refine rt_gf rfl c23 rfl rfl ?_
  refine rt_k (k := 1) (pc' := 5) (L' := [some (.ref 23)]) (st' := [.ref 23, .ref 29]) (h' := h) (fun _ => rfl) ?_
  refine rt_gf rfl c23 rfl rfl ?_
  refine rt_k (k := 1) (pc' := 9) (L' := [some (.ref 23)]) (st' := [.int (nI 1), .int (nI K.length), .ref 29]) (h' := h) (fun _ => rfl) ?_
  refine rt_sub rfl (by omega) ?_
  refine rt_aalN rfl c29 rfl (by omega) (by decide) f1 ?_
  exact rt_r (v := some (.ref a)) rfl rfl (⟨rfl, a, rfl, YG⟩)
theorem m_current (C : mKp h ad T J nx D K made st) (hg : K[K.length - 1]? = some g) (k w : Int32) : rt_ X (d + 1) 176 0 [some (.ref 23), some (.int k), some (.int w), none] [] h (fun v h' => h' = h ∧ curP g k w v) := by
  obtain ⟨l39, ⟨nw, pa, nc, bc, kn, c23, CA⟩, TT, W, CI, CD, CK, CS⟩ := id C
  have rest : ∀ w, (w = 0 ∨ w = 1) → (∀ a, yG h ad a g → rt_ X (d + 1) 176 16 [some (.ref 23), some (.int k), some (.int w), some (.ref a)] [] h (fun v h' => h' = h ∧ curP g k w v)) → rt_ X (d + 1) 176 11 [some (.ref 23), some (.int k), some (.int w), none] [] h (fun v h' => h' = h ∧ curP g k w v) := fun w _ kk => by
    refine rt_k (k := 1) (pc' := 12) (L' := [some (.ref 23), some (.int k), some (.int w), none]) (st' := [.ref 23]) (h' := h) (fun _ => rfl) ?_
    refine rt_cvH rfl (by decide) c23 rfl rfl rfl rfl (m_cur (d := d) c23 CK hg) ?_
    rintro _ ⟨a, rfl, YG⟩
    refine rt_k (k := 1) (pc' := 16) (L' := [some (.ref 23), some (.int k), some (.int w), some (.ref a)]) (st' := []) (h' := h) (fun _ => rfl) ?_
    exact kk a YG
  have out : ∀ w, (w = 0 ∨ w = 1) → ∀ a, yG h ad a g → (∀ j, j < g.length → ¬ k = nI j) → rt_ X (d + 1) 176 16 [some (.ref 23), some (.int k), some (.int w), some (.ref a)] [] h (fun v h' => h' = h ∧ curP g k w v) := fun w hw a YG no => by
    obtain ⟨rl, ci, RF, CF, ⟨-, cg⟩, ⟨-, cl⟩, ⟨-, cc⟩, g8, HG⟩ := id YG
    refine rt_k (k := 1) (pc' := 17) (L' := [some (.ref 23), some (.int k), some (.int w), some (.ref a)]) (st' := [.int k]) (h' := h) (fun _ => rfl) ?_
    refine rt_qlt rfl (fun z1 => ?_) (fun z1 => ?_)
    ·
      refine rt_k (k := 1) (pc' := 30) (L' := [some (.ref 23), some (.int k), some (.int w), some (.ref a)]) (st' := [.int (-2)]) (h' := h) (fun _ => rfl) ?_
      exact rt_r (v := some (.int (-2))) rfl rfl (⟨rfl, Or.inr (Or.inl ⟨hw, Or.inl z1, rfl⟩)⟩)
    refine rt_k (k := 2) (pc' := 22) (L' := [some (.ref 23), some (.int k), some (.int w), some (.ref a)]) (st' := [.ref a, .int k]) (h' := h) (fun _ => rfl) ?_
    refine rt_gf rfl cg rfl rfl ?_
    refine rt_jlt rfl (fun z2 => ?_) (fun z2 => ?_)
    rotate_left
    ·
      refine rt_k (k := 1) (pc' := 30) (L' := [some (.ref 23), some (.int k), some (.int w), some (.ref a)]) (st' := [.int (-2)]) (h' := h) (fun _ => rfl) ?_
      exact rt_r (v := some (.int (-2))) rfl rfl (⟨rfl, Or.inr (Or.inl ⟨hw, Or.inr z2, rfl⟩)⟩)
    obtain ⟨j, hj, e⟩ := i32_n (by omega) z1 z2
    exact absurd e (no j hj)
  by_cases hk : ∃ j, j < g.length ∧ k = nI j
  · obtain ⟨j, hj, rfl⟩ := hk
    obtain ⟨e, he⟩ := gt_ex hj
    rcases i32_c w with rfl | rfl | ⟨w0, w1⟩
    · have t0 := trivial
      refine rt_k (k := 5) (pc' := 11) (L' := [some (.ref 23), some (.int (nI j)), some (.int (nI 0)), none]) (st' := []) (h' := h) (fun _ => rfl) ?_
      refine rest 0 (Or.inl rfl) (fun a YG => ?_)
      obtain ⟨rl, ci, RF, CF, ⟨-, cg⟩, ⟨-, cl⟩, ⟨-, cc⟩, g8, HG⟩ := id YG
      obtain ⟨f1, Ye, f2⟩ := HG j e he
      obtain ⟨nm9, ve9, nd9, nr9, bk9, br9, ow9, NF9, RF9, BF9, QF9, OF9, ⟨zr9, cr9⟩, ⟨-, cnd9⟩, ⟨-, cnr9⟩, ⟨-, cbk9⟩, ⟨-, cbr9⟩, ⟨-, cow9⟩, hln9, Sn9, Vn9, DN9, DB9, WO9⟩ := id (Ye)
      refine rt_k (k := 1) (pc' := 17) (L' := [some (.ref 23), some (.int (nI j)), some (.int (nI 0)), some (.ref a)]) (st' := [.int (nI j)]) (h' := h) (fun _ => rfl) ?_
      refine rt_zlt rfl (by omega) ?_
      refine rt_k (k := 2) (pc' := 22) (L' := [some (.ref 23), some (.int (nI j)), some (.int (nI 0)), some (.ref a)]) (st' := [.ref a, .int (nI j)]) (h' := h) (fun _ => rfl) ?_
      refine rt_gf rfl cg rfl rfl ?_
      refine rt_ilt rfl (by omega) (by omega) (fun _ => ?_) (fun z => absurd z ((by omega)))
      refine rt_k (k := 3) (pc' := 36) (L' := [some (.ref 23), some (.int (nI j)), some (.int (nI 0)), some (.ref a)]) (st' := [.ref a]) (h' := h) (fun _ => rfl) ?_
      refine rt_gf rfl cg rfl rfl ?_
      refine rt_k (k := 1) (pc' := 40) (L' := [some (.ref 23), some (.int (nI j)), some (.int (nI 0)), some (.ref a)]) (st' := [.int (nI j), .ref rl]) (h' := h) (fun _ => rfl) ?_
      refine rt_aalN rfl cl rfl (by omega) (by decide) f1 ?_
      refine rt_gf rfl cr9 rfl rfl ?_
      refine rt_k (k := 1) (pc' := 53) (L' := [some (.ref 23), some (.int (nI j)), some (.int (nI 0)), some (.ref a)]) (st' := [.int (nI (lNo e.1))]) (h' := h) (fun _ => rfl) ?_
      exact rt_r (v := some (.int (nI (lNo e.1)))) rfl rfl (⟨rfl, Or.inr (Or.inr ⟨j, e, rfl, he, Or.inl ⟨rfl, rfl⟩⟩)⟩)
    · have t0 := trivial
      refine rt_k (k := 5) (pc' := 11) (L' := [some (.ref 23), some (.int (nI j)), some (.int (nI 1)), none]) (st' := []) (h' := h) (fun _ => rfl) ?_
      refine rest 1 (Or.inr rfl) (fun a YG => ?_)
      obtain ⟨rl, ci, RF, CF, ⟨-, cg⟩, ⟨-, cl⟩, ⟨-, cc⟩, g8, HG⟩ := id YG
      obtain ⟨f1, Ye, f2⟩ := HG j e he
      refine rt_k (k := 1) (pc' := 17) (L' := [some (.ref 23), some (.int (nI j)), some (.int (nI 1)), some (.ref a)]) (st' := [.int (nI j)]) (h' := h) (fun _ => rfl) ?_
      refine rt_zlt rfl (by omega) ?_
      refine rt_k (k := 2) (pc' := 22) (L' := [some (.ref 23), some (.int (nI j)), some (.int (nI 1)), some (.ref a)]) (st' := [.ref a, .int (nI j)]) (h' := h) (fun _ => rfl) ?_
      refine rt_gf rfl cg rfl rfl ?_
      refine rt_ilt rfl (by omega) (by omega) (fun _ => ?_) (fun z => absurd z ((by omega)))
      refine rt_k (k := 3) (pc' := 48) (L' := [some (.ref 23), some (.int (nI j)), some (.int (nI 1)), some (.ref a)]) (st' := [.ref a]) (h' := h) (fun _ => rfl) ?_
      refine rt_gf rfl cg rfl rfl ?_
      refine rt_k (k := 1) (pc' := 52) (L' := [some (.ref 23), some (.int (nI j)), some (.int (nI 1)), some (.ref a)]) (st' := [.int (nI j), .ref ci]) (h' := h) (fun _ => rfl) ?_
      refine rt_ialN rfl cc rfl (by omega) (by decide) f2 ?_
      exact rt_r (v := some (.int (nI e.2))) rfl rfl (⟨rfl, Or.inr (Or.inr ⟨j, e, rfl, he, Or.inr ⟨rfl, rfl⟩⟩)⟩)
    · have t0 := trivial
      refine rt_k (k := 1) (pc' := 1) (L' := [some (.ref 23), some (.int (nI j)), some (.int w), none]) (st' := [.int w]) (h' := h) (fun _ => rfl) ?_
      refine rt_qlt rfl (fun z1 => ?_) (fun z1 => ?_)
      ·
        refine rt_k (k := 1) (pc' := 10) (L' := [some (.ref 23), some (.int (nI j)), some (.int w), none]) (st' := [.int (-1)]) (h' := h) (fun _ => rfl) ?_
        exact rt_r (v := some (.int (-1))) rfl rfl (⟨rfl, Or.inl ⟨w0, w1, rfl⟩⟩)
      refine rt_k (k := 2) (pc' := 6) (L' := [some (.ref 23), some (.int (nI j)), some (.int w), none]) (st' := [.int (nI 1), .int w]) (h' := h) (fun _ => rfl) ?_
      refine rt_jle rfl (fun z2 => ?_) (fun z2 => ?_)
      rotate_left
      ·
        refine rt_k (k := 1) (pc' := 10) (L' := [some (.ref 23), some (.int (nI j)), some (.int w), none]) (st' := [.int (-1)]) (h' := h) (fun _ => rfl) ?_
        exact rt_r (v := some (.int (-1))) rfl rfl (⟨rfl, Or.inl ⟨w0, w1, rfl⟩⟩)
      rcases i32_le1 z1 z2 with q | q
      · exact absurd q w0
      · exact absurd q w1
  · have no : ∀ j, j < g.length → ¬ k = nI j := fun j hj e => hk ⟨j, hj, e⟩
    refine rt_k (k := 1) (pc' := 1) (L' := [some (.ref 23), some (.int k), some (.int w), none]) (st' := [.int w]) (h' := h) (fun _ => rfl) ?_
    refine rt_qlt rfl (fun z1 => ?_) (fun z1 => ?_)
    ·
      refine rt_k (k := 1) (pc' := 10) (L' := [some (.ref 23), some (.int k), some (.int w), none]) (st' := [.int (-1)]) (h' := h) (fun _ => rfl) ?_
      exact rt_r (v := some (.int (-1))) rfl rfl (⟨rfl, Or.inl ⟨(fun q => by rw [q] at z1; exact absurd z1 (by decide)), (fun q => by rw [q] at z1; exact absurd z1 (by decide)), rfl⟩⟩)
    refine rt_k (k := 2) (pc' := 6) (L' := [some (.ref 23), some (.int k), some (.int w), none]) (st' := [.int (nI 1), .int w]) (h' := h) (fun _ => rfl) ?_
    refine rt_jle rfl (fun z2 => ?_) (fun z2 => ?_)
    rotate_left
    ·
      refine rt_k (k := 1) (pc' := 10) (L' := [some (.ref 23), some (.int k), some (.int w), none]) (st' := [.int (-1)]) (h' := h) (fun _ => rfl) ?_
      exact rt_r (v := some (.int (-1))) rfl rfl (⟨rfl, Or.inl ⟨(fun q => by rw [q] at z2; exact absurd z2 (by decide)), (fun q => by rw [q] at z2; exact absurd z2 (by decide)), rfl⟩⟩)
    exact rest w (i32_le1 z1 z2) (fun a YG => out w (i32_le1 z1 z2) a YG no)
theorem m_step (C : mKp h ad T J nx D K made st) (k w : Int32) : rt_ X d 177 0 [some (.ref 23), some (.int k), some (.int w)] [] h (fun v h' => h' = h ∧ stpP st k w v) := by
  obtain ⟨l39, ⟨nw, pa, nc, bc, kn, c23, CA⟩, TT, W, CI, CD, CK, CS⟩ := id C
  obtain ⟨SF, SG, c30, c31, s16, HS⟩ := id CS
  by_cases hk : ∃ j, j < st.length ∧ k = nI j
  · obtain ⟨j, hj, rfl⟩ := hk
    obtain ⟨e, he⟩ := gt_ex hj
    obtain ⟨f1, ⟨fs, zf, cf⟩, f2, f3⟩ := HS j e he
    rcases i32_c w with rfl | rfl | ⟨w0, w1⟩
    · have t0 := trivial
      refine rt_k (k := 6) (pc' := 12) (L' := [some (.ref 23), some (.int (nI j)), some (.int (nI 0))]) (st' := [.int (nI j)]) (h' := h) (fun _ => rfl) ?_
      refine rt_zlt rfl (by omega) ?_
      refine rt_k (k := 2) (pc' := 17) (L' := [some (.ref 23), some (.int (nI j)), some (.int (nI 0))]) (st' := [.ref 23, .int (nI j)]) (h' := h) (fun _ => rfl) ?_
      refine rt_gf rfl c23 rfl rfl ?_
      refine rt_ilt rfl (by omega) (by omega) (fun _ => ?_) (fun z => absurd z ((by omega)))
      refine rt_k (k := 3) (pc' := 31) (L' := [some (.ref 23), some (.int (nI j)), some (.int (nI 0))]) (st' := [.ref 23]) (h' := h) (fun _ => rfl) ?_
      refine rt_gf rfl c23 rfl rfl ?_
      refine rt_k (k := 1) (pc' := 35) (L' := [some (.ref 23), some (.int (nI j)), some (.int (nI 0))]) (st' := [.int (nI j), .ref 30]) (h' := h) (fun _ => rfl) ?_
      refine rt_aalN rfl c30 rfl (by omega) (by decide) f1 ?_
      refine rt_gf rfl cf rfl rfl ?_
      refine rt_k (k := 1) (pc' := 56) (L' := [some (.ref 23), some (.int (nI j)), some (.int (nI 0))]) (st' := [.int (nI e.1)]) (h' := h) (fun _ => rfl) ?_
      exact rt_r (v := some (.int (nI e.1))) rfl rfl (⟨rfl, Or.inr (Or.inr ⟨j, e, rfl, he, Or.inl ⟨rfl, rfl⟩⟩)⟩)
    · have t0 := trivial
      refine rt_k (k := 6) (pc' := 12) (L' := [some (.ref 23), some (.int (nI j)), some (.int (nI 1))]) (st' := [.int (nI j)]) (h' := h) (fun _ => rfl) ?_
      refine rt_zlt rfl (by omega) ?_
      refine rt_k (k := 2) (pc' := 17) (L' := [some (.ref 23), some (.int (nI j)), some (.int (nI 1))]) (st' := [.ref 23, .int (nI j)]) (h' := h) (fun _ => rfl) ?_
      refine rt_gf rfl c23 rfl rfl ?_
      refine rt_ilt rfl (by omega) (by omega) (fun _ => ?_) (fun z => absurd z ((by omega)))
      refine rt_k (k := 3) (pc' := 43) (L' := [some (.ref 23), some (.int (nI j)), some (.int (nI 1))]) (st' := [.ref 23]) (h' := h) (fun _ => rfl) ?_
      refine rt_gf rfl c23 rfl rfl ?_
      refine rt_k (k := 1) (pc' := 47) (L' := [some (.ref 23), some (.int (nI j)), some (.int (nI 1))]) (st' := [.int (nI j), .ref 31]) (h' := h) (fun _ => rfl) ?_
      refine rt_zalN rfl c31 rfl (by omega) (by decide) f2 ?_
      refine rt_zeq rfl (by omega) (fun z1 => ?_) (fun z1 => ?_)
      ·
        have e2 : e.2 = 0 := by omega
        refine rt_k (k := 1) (pc' := 56) (L' := [some (.ref 23), some (.int (nI j)), some (.int (nI 1))]) (st' := [.int (nI 0)]) (h' := h) (fun _ => rfl) ?_
        exact rt_r (v := some (.int (nI 0))) rfl rfl (⟨rfl, Or.inr (Or.inr ⟨j, e, rfl, he, Or.inr ⟨rfl, by rw [e2]⟩⟩)⟩)
      have e2 : e.2 = 1 := by omega
      refine rt_k (k := 2) (pc' := 56) (L' := [some (.ref 23), some (.int (nI j)), some (.int (nI 1))]) (st' := [.int (nI 1)]) (h' := h) (fun _ => rfl) ?_
      exact rt_r (v := some (.int (nI 1))) rfl rfl (⟨rfl, Or.inr (Or.inr ⟨j, e, rfl, he, Or.inr ⟨rfl, by rw [e2]⟩⟩)⟩)
    · have t0 := trivial
      refine rt_k (k := 1) (pc' := 1) (L' := [some (.ref 23), some (.int (nI j)), some (.int w)]) (st' := [.int w]) (h' := h) (fun _ => rfl) ?_
      refine rt_qlt rfl (fun z1 => ?_) (fun z1 => ?_)
      ·
        refine rt_k (k := 1) (pc' := 10) (L' := [some (.ref 23), some (.int (nI j)), some (.int w)]) (st' := [.int (-1)]) (h' := h) (fun _ => rfl) ?_
        exact rt_r (v := some (.int (-1))) rfl rfl (⟨rfl, Or.inl ⟨w0, w1, rfl⟩⟩)
      refine rt_k (k := 2) (pc' := 6) (L' := [some (.ref 23), some (.int (nI j)), some (.int w)]) (st' := [.int (nI 1), .int w]) (h' := h) (fun _ => rfl) ?_
      refine rt_jle rfl (fun z2 => ?_) (fun z2 => ?_)
      rotate_left
      ·
        refine rt_k (k := 1) (pc' := 10) (L' := [some (.ref 23), some (.int (nI j)), some (.int w)]) (st' := [.int (-1)]) (h' := h) (fun _ => rfl) ?_
        exact rt_r (v := some (.int (-1))) rfl rfl (⟨rfl, Or.inl ⟨w0, w1, rfl⟩⟩)
      rcases i32_le1 z1 z2 with q | q
      · exact absurd q w0
      · exact absurd q w1
  · have no : ∀ j, j < st.length → ¬ k = nI j := fun j hj e => hk ⟨j, hj, e⟩
    refine rt_k (k := 1) (pc' := 1) (L' := [some (.ref 23), some (.int k), some (.int w)]) (st' := [.int w]) (h' := h) (fun _ => rfl) ?_
    refine rt_qlt rfl (fun z1 => ?_) (fun z1 => ?_)
    ·
      refine rt_k (k := 1) (pc' := 10) (L' := [some (.ref 23), some (.int k), some (.int w)]) (st' := [.int (-1)]) (h' := h) (fun _ => rfl) ?_
      exact rt_r (v := some (.int (-1))) rfl rfl (⟨rfl, Or.inl ⟨(fun q => by rw [q] at z1; exact absurd z1 (by decide)), (fun q => by rw [q] at z1; exact absurd z1 (by decide)), rfl⟩⟩)
    refine rt_k (k := 2) (pc' := 6) (L' := [some (.ref 23), some (.int k), some (.int w)]) (st' := [.int (nI 1), .int w]) (h' := h) (fun _ => rfl) ?_
    refine rt_jle rfl (fun z2 => ?_) (fun z2 => ?_)
    rotate_left
    ·
      refine rt_k (k := 1) (pc' := 10) (L' := [some (.ref 23), some (.int k), some (.int w)]) (st' := [.int (-1)]) (h' := h) (fun _ => rfl) ?_
      exact rt_r (v := some (.int (-1))) rfl rfl (⟨rfl, Or.inl ⟨(fun q => by rw [q] at z2; exact absurd z2 (by decide)), (fun q => by rw [q] at z2; exact absurd z2 (by decide)), rfl⟩⟩)
    refine rt_k (k := 1) (pc' := 12) (L' := [some (.ref 23), some (.int k), some (.int w)]) (st' := [.int k]) (h' := h) (fun _ => rfl) ?_
    refine rt_qlt rfl (fun z3 => ?_) (fun z3 => ?_)
    ·
      refine rt_k (k := 1) (pc' := 25) (L' := [some (.ref 23), some (.int k), some (.int w)]) (st' := [.int (-2)]) (h' := h) (fun _ => rfl) ?_
      exact rt_r (v := some (.int (-2))) rfl rfl (⟨rfl, Or.inr (Or.inl ⟨i32_le1 z1 z2, Or.inl z3, rfl⟩)⟩)
    refine rt_k (k := 2) (pc' := 17) (L' := [some (.ref 23), some (.int k), some (.int w)]) (st' := [.ref 23, .int k]) (h' := h) (fun _ => rfl) ?_
    refine rt_gf rfl c23 rfl rfl ?_
    refine rt_jlt rfl (fun z4 => ?_) (fun z4 => ?_)
    rotate_left
    ·
      refine rt_k (k := 1) (pc' := 25) (L' := [some (.ref 23), some (.int k), some (.int w)]) (st' := [.int (-2)]) (h' := h) (fun _ => rfl) ?_
      exact rt_r (v := some (.int (-2))) rfl rfl (⟨rfl, Or.inr (Or.inl ⟨i32_le1 z1 z2, Or.inr z4, rfl⟩)⟩)
    obtain ⟨j, hj, e⟩ := i32_n (by omega) z3 z4
    exact absurd e (no j hj)
theorem m_count (C : mKp h ad T J nx D K made st) (hg : K[K.length - 1]? = some g) (w : Int32) : rt_ X (d + 1) 181 0 [some (.ref 23), some (.int w)] [] h (fun v h' => h' = h ∧ cntP J.length D.length g.length K.length made T.length w v) := by
  obtain ⟨l39, ⟨nw, pa, nc, bc, kn, c23, CA⟩, TT, W, CI, CD, CK, CS⟩ := id C
  refine rt_n rfl ?_
  refine rt_t6 rfl (by decide) (fun q => ?_) (fun q => ?_) (fun q => ?_) (fun q => ?_) (fun q => ?_) (fun q => ?_) (fun q => ?_)
  · have t0 := trivial
    refine rt_k (k := 1) (pc' := 74) (L' := [some (.ref 23), some (.int w)]) (st' := [.int (-1)]) (h' := h) (fun _ => rfl) ?_
    exact rt_r (v := some (.int (-1))) rfl rfl (⟨rfl, Or.inr (Or.inr (Or.inr (Or.inr (Or.inr (Or.inr ⟨q, rfl⟩)))))⟩)
  · have t0 := trivial
    refine rt_k (k := 1) (pc' := 41) (L' := [some (.ref 23), some (.int w)]) (st' := [.ref 23]) (h' := h) (fun _ => rfl) ?_
    refine rt_gf rfl c23 rfl rfl ?_
    exact rt_r (v := some (.int (nI J.length))) rfl rfl (⟨rfl, Or.inl ⟨q, rfl⟩⟩)
  · have t0 := trivial
    refine rt_k (k := 1) (pc' := 46) (L' := [some (.ref 23), some (.int w)]) (st' := [.ref 23]) (h' := h) (fun _ => rfl) ?_
    refine rt_gf rfl c23 rfl rfl ?_
    exact rt_r (v := some (.int (nI D.length))) rfl rfl (⟨rfl, Or.inr (Or.inl ⟨q, rfl⟩)⟩)
  · have t0 := trivial
    refine rt_k (k := 1) (pc' := 51) (L' := [some (.ref 23), some (.int w)]) (st' := [.ref 23]) (h' := h) (fun _ => rfl) ?_
    refine rt_cvH rfl (by decide) c23 rfl rfl rfl rfl (m_cur (d := d) c23 CK hg) ?_
    rintro _ ⟨a, rfl, YG⟩
    obtain ⟨rl, ci, RF, CF, ⟨-, cg⟩, -⟩ := id YG
    refine rt_gf rfl cg rfl rfl ?_
    exact rt_r (v := some (.int (nI g.length))) rfl rfl (⟨rfl, Or.inr (Or.inr (Or.inl ⟨q, rfl⟩))⟩)
  · have t0 := trivial
    refine rt_k (k := 1) (pc' := 59) (L' := [some (.ref 23), some (.int w)]) (st' := [.ref 23]) (h' := h) (fun _ => rfl) ?_
    refine rt_gf rfl c23 rfl rfl ?_
    exact rt_r (v := some (.int (nI K.length))) rfl rfl (⟨rfl, Or.inr (Or.inr (Or.inr (Or.inl ⟨q, rfl⟩)))⟩)
  · have t0 := trivial
    refine rt_k (k := 1) (pc' := 64) (L' := [some (.ref 23), some (.int w)]) (st' := [.ref 23]) (h' := h) (fun _ => rfl) ?_
    refine rt_gf rfl c23 rfl rfl ?_
    exact rt_r (v := some (.int (nI made))) rfl rfl (⟨rfl, Or.inr (Or.inr (Or.inr (Or.inr (Or.inl ⟨q, rfl⟩))))⟩)
  · have t0 := trivial
    refine rt_k (k := 1) (pc' := 69) (L' := [some (.ref 23), some (.int w)]) (st' := [.ref 23]) (h' := h) (fun _ => rfl) ?_
    refine rt_gf rfl c23 rfl rfl ?_
    exact rt_r (v := some (.int (nI T.length))) rfl rfl (⟨rfl, Or.inr (Or.inr (Or.inr (Or.inr (Or.inr (Or.inl ⟨q, rfl⟩)))))⟩)
def rbR (K : List kG) (st : kS) (cu : Int32) (v : Option Value) (K' : List kG) (st' : kS) : Prop := (¬ 1 < K.length ∧ v = some (.int (-2)) ∧ K' = K ∧ st' = st) ∨ (1 < K.length ∧ ¬ cu < 0 ∧ v = some (.int (-5)) ∧ K' = K ∧ st' = st) ∨ (1 < K.length ∧ cu < 0 ∧ ∃ g t, K[K.length - 1]? = some g ∧ K[K.length - 2]? = some t ∧ v = some (.int (nI t.length)) ∧ K' = K.take (K.length - 1) ∧ st' = wkS g t)
theorem m_rollback (C : mKp h ad T J nx D K made st) (hb : ∀ g ∈ K, bG g) (cu : Int32) : rt_ X (d + 2) 175 0 [some (.ref 23), some (.int cu), none] [] h (fun v h' => fr_ wS h h' ∧ ∃ K' st', mKp h' ad T J nx D K' made st' ∧ rbR K st cu v K' st') := by
  obtain ⟨l39, ⟨nw, pa, nc, bc, kn, c23, CA⟩, ⟨⟨tg, t1, t2⟩, t3, t4⟩, W, CI, CD, CK, CS⟩ := id C
  obtain ⟨KF, c29, k1, k4, HK⟩ := id CK
  refine rt_k (k := 1) (pc' := 1) (L' := [some (.ref 23), some (.int cu), none]) (st' := [.ref 23]) (h' := h) (fun _ => rfl) ?_
  refine rt_gf rfl c23 rfl rfl ?_
  refine rt_k (k := 1) (pc' := 5) (L' := [some (.ref 23), some (.int cu), none]) (st' := [.int (nI 1), .int (nI K.length)]) (h' := h) (fun _ => rfl) ?_
  refine rt_ine rfl (by omega) (by decide) (fun z0 => ?_) (fun z0 => ?_)
  rotate_left
  ·
    refine rt_k (k := 1) (pc' := 10) (L' := [some (.ref 23), some (.int cu), none]) (st' := [.int (-2)]) (h' := h) (fun _ => rfl) ?_
    exact rt_r (v := some (.int (-2))) rfl rfl (⟨fr_rf, K, st, C, Or.inl ⟨by omega, rfl, rfl, rfl⟩⟩)
  refine rt_k (k := 1) (pc' := 12) (L' := [some (.ref 23), some (.int cu), none]) (st' := [.int cu]) (h' := h) (fun _ => rfl) ?_
  refine rt_qlt rfl (fun z1 => ?_) (fun z1 => ?_)
  rotate_left
  ·
    refine rt_k (k := 1) (pc' := 17) (L' := [some (.ref 23), some (.int cu), none]) (st' := [.int (-5)]) (h' := h) (fun _ => rfl) ?_
    exact rt_r (v := some (.int (-5))) rfl rfl (⟨fr_rf, K, st, C, Or.inr (Or.inl ⟨by omega, z1, rfl, rfl, rfl⟩)⟩)
  obtain ⟨g, hg⟩ := gt_ex (show K.length - 1 < K.length by omega)
  obtain ⟨t, ht⟩ := gt_ex (show K.length - 2 < K.length by omega)
  refine rt_k (k := 1) (pc' := 19) (L' := [some (.ref 23), some (.int cu), none]) (st' := [.ref 23]) (h' := h) (fun _ => rfl) ?_
  refine rt_cvH rfl (by decide) c23 rfl rfl rfl rfl (m_cur (d := d + 1) c23 CK hg) ?_
  rintro _ ⟨a, rfl, YG⟩
  refine rt_k (k := 3) (pc' := 25) (L' := [some (.ref 23), some (.int cu), some (.ref a)]) (st' := [.ref 23, .ref 23]) (h' := h) (fun _ => rfl) ?_
  refine rt_gf rfl c23 rfl rfl ?_
  refine rt_k (k := 1) (pc' := 29) (L' := [some (.ref 23), some (.int cu), some (.ref a)]) (st' := [.int (nI 1), .int (nI K.length), .ref 23]) (h' := h) (fun _ => rfl) ?_
  refine rt_sub rfl (by omega) ?_
  refine rt_pf rfl c23 ⟨rfl, (show 12 < 24 by decide), rfl⟩ ?_
  refine rt_nm (fun h_1 e_2 => ?_)
  have f_3 : fr_ (fun z => z = 23) h h_1 := by rw [e_2]; exact fr_set (e' := .inr (12, [.ref 24, .int (nI T.length), .ref 25, .int nw, .int pa, .ref 26, .int (nI J.length), .int (nI nx), .ref 27, .ref 28, .int (nI D.length), .ref 29, .int (nI (K.length - 1)), .int (nI made), .ref 30, .ref 31, .int (nI st.length), .ref 32, .int nc, .ref 33, .ref 34, .int bc, .int kn, .ref 35])) c23 (by rfl) (by first | decide | simp)
  have n_4 : h_1.length = h.length := by rw [e_2]; simp
  have c_5 : h_1[23]? = some (.inr (12, [.ref 24, .int (nI T.length), .ref 25, .int nw, .int pa, .ref 26, .int (nI J.length), .int (nI nx), .ref 27, .ref 28, .int (nI D.length), .ref 29, .int (nI (K.length - 1)), .int (nI made), .ref 30, .ref 31, .int (nI st.length), .ref 32, .int nc, .ref 33, .ref 34, .int bc, .int kn, .ref 35])) := by rw [e_2]; exact hs_self c23
  refine rt_k (k := 3) (pc' := 36) (L' := [some (.ref 23), some (.int cu), some (.ref a)]) (st' := [.ref 23, .ref a, .ref 23]) (h' := h_1) (fun _ => rfl) ?_
  have F1 := f_3
  have d23 := c_5
  generalize h_1 = h1 at *
  have E1 := fr_ex F1 (fun k q => by unfold zz at q; omega)
  have tl : (K.take (K.length - 1)).length = K.length - 1 := by rw [List.length_take]; omega
  have CK1 : mKs h1 ad (K.take (K.length - 1)) := ⟨KF, fr_at F1 (by decide) c29, by omega, by omega, fun i x hx => by
    rw [List.getElem?_take] at hx
    split at hx
    · obtain ⟨b, f1, Y⟩ := HK i x hx
      exact ⟨b, f1, Y.ex E1⟩
    · cases hx⟩
  have ht1 : (K.take (K.length - 1))[(K.take (K.length - 1)).length - 1]? = some t := by
    rw [tl, List.getElem?_take, if_pos (by omega), show K.length - 1 - 1 = K.length - 2 by omega]; exact ht
  rw [← tl] at d23
  refine rt_cvH rfl (by decide) d23 rfl rfl rfl rfl (m_cur (d := d + 1) (K := K.take (K.length - 1)) d23 CK1 ht1) ?_
  rintro _ ⟨b, rfl, YT⟩
  refine rt_cv rfl (by decide) d23 rfl rfl rfl rfl (m_walk (d := d) (hb g (List.mem_of_getElem? hg)) (hb t (List.mem_of_getElem? ht)) (YG.ex E1) YT d23 (CS.ex E1 (F1.2.2 30 (by decide)) (F1.2.2 31 (by decide)))) ?_
  rintro _ h2 ⟨rfl, F2, e23, MS⟩
  have E2 := fr_ex F2 wS_zz
  have FA : fr_ wS h h2 := fr_tr (fr_mo F1 (fun k q => Or.inl q)) F2
  have EA := fr_ex FA wS_zz
  have e : ∀ k, ¬ wS k → h2[k]? = h[k]? := fun k hn => FA.2.2 k hn
  have CK2 := CK1.ex E2 (F2.2.2 29 (by decide))
  refine rt_k (k := 1) (pc' := 43) (L' := [some (.ref 23), some (.int cu), some (.ref a)]) (st' := [.ref 23]) (h' := h2) (fun _ => rfl) ?_
  refine rt_cvH rfl (by decide) e23 rfl rfl rfl rfl (m_cur (d := d + 1) (K := K.take (K.length - 1)) (st := wkS g t) e23 CK2 ht1) ?_
  rintro _ ⟨b2, rfl, YT2⟩
  obtain ⟨rl, ci, RF, CF, ⟨-, cg⟩, -⟩ := id YT2
  refine rt_gf rfl cg rfl rfl ?_
  exact rt_r (v := some (.int (nI t.length))) rfl rfl (⟨FA, K.take (K.length - 1), wkS g t, ⟨by rw [FA.1]; exact l39, ⟨nw, pa, nc, bc, kn, e23, CA.ex EA (fun k h1 h2 => e k (by unfold wS; omega))⟩, ⟨⟨tg, (e 24 (by decide)).trans t1, t2⟩, t3, t4⟩, W.ex EA (e 25 (by decide)), CI.ex EA (e 26 (by decide)), CD.ex EA (e 27 (by decide)) (e 28 (by decide)), CK2, MS⟩, Or.inr (Or.inr ⟨by omega, z1, g, t, hg, ht, rfl, rfl, rfl⟩)⟩)
end NK

