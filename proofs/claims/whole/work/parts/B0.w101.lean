/-! THE REFERENCE, 36: owner. -/
section NL
variable {X : Nat × (Nat → Int32)} {d : Nat} {h : List va_E} {Q : Option Value → List va_E → Prop} {ad : Nat → Nat} {T : List Nat} {J : List kL} {nx : Nat} {D : kD} {K : List kG} {made : Nat} {st : kS}
variable {nc bc kn : Int32} {g : kG} {wa : Nat} {w : kW} {F25 : Nat → Option Nat}
theorem m_ow2 {ga n : Nat} {e : kL × Nat} (c23 : h[23]? = some (mo (nI 0) (nI 1) (nI 0) (mq (nI J.length) (nI nx) (nI D.length) (nI K.length) (nI made) (nI st.length) nc bc kn))) (c25 : h[25]? = some (.inl (9, 400, .inr (.inr (.inr (.inr F25)))))) (fw : F25 0 = some wa) (Sw : sS h wa w) (YG : yG h ad ga g) (he : g[n]? = some e) (k1 : w ∈ lOw e.1 → Q (some (.int (nI (lNo e.1)))) h) (k : ∀ y3, ¬ w ∈ lOw e.1 → rt_ X (d + 2) 178 92 [some (.ref 23), some (.ref ga), some (.int (nI n)), y3] [] h Q) (i : Nat) (hi : i ≤ (lOw e.1).length) (H : ∀ (j : Nat) u, j < i → (lOw e.1)[j]? = some u → ¬ u = w) : rt_ X (d + 2) 178 42 [some (.ref 23), some (.ref ga), some (.int (nI n)), some (.int (nI i))] [] h Q := by
  obtain ⟨rl, ci, RF, CF, ⟨-, cg⟩, ⟨-, cl⟩, ⟨-, cc⟩, g8, HG⟩ := id YG
  obtain ⟨f1, Ye, -⟩ := HG n e he
  have ln := gt_lt he
  obtain ⟨nm9, ve9, nd9, nr9, bk9, br9, ow9, NF9, RF9, BF9, QF9, OF9, ⟨zr9, cr9⟩, ⟨-, cnd9⟩, ⟨-, cnr9⟩, ⟨-, cbk9⟩, ⟨-, cbr9⟩, ⟨-, cow9⟩, hln9, Sn9, Vn9, DN9, DB9, WO9⟩ := id (Ye)
  refine rt_k (k := 2) (pc' := 44) (L' := [some (.ref 23), some (.ref ga), some (.int (nI n)), some (.int (nI i))]) (st' := [.ref ga, .int (nI i)]) (h' := h) (fun _ => rfl) ?_
  refine rt_gf rfl cg rfl rfl ?_
  refine rt_k (k := 1) (pc' := 48) (L' := [some (.ref 23), some (.ref ga), some (.int (nI n)), some (.int (nI i))]) (st' := [.int (nI n), .ref rl, .int (nI i)]) (h' := h) (fun _ => rfl) ?_
  refine rt_aalN rfl cl rfl (by omega) (by decide) f1 ?_
  refine rt_gf rfl cr9 rfl rfl ?_
  refine rt_ige rfl (by omega) (by omega) (fun z0 => ?_) (fun z0 => ?_)
  ·
    exact k _ (fun q => by obtain ⟨j, hj⟩ := gt_mem q; exact H j w (by have := gt_lt hj; omega) hj rfl)
  obtain ⟨u, hu⟩ := gt_ex z0
  obtain ⟨ua, g1, Su⟩ := WO9 i u hu
  obtain ⟨uv, ux, uy, ucc, -, -⟩ := Su.at
  refine rt_k (k := 1) (pc' := 56) (L' := [some (.ref 23), some (.ref ga), some (.int (nI n)), some (.int (nI i))]) (st' := [.ref ga]) (h' := h) (fun _ => rfl) ?_
  refine rt_gf rfl cg rfl rfl ?_
  refine rt_k (k := 1) (pc' := 60) (L' := [some (.ref 23), some (.ref ga), some (.int (nI n)), some (.int (nI i))]) (st' := [.int (nI n), .ref rl]) (h' := h) (fun _ => rfl) ?_
  refine rt_aalN rfl cl rfl (by omega) (by decide) f1 ?_
  refine rt_gf rfl cr9 rfl rfl ?_
  refine rt_k (k := 1) (pc' := 65) (L' := [some (.ref 23), some (.ref ga), some (.int (nI n)), some (.int (nI i))]) (st' := [.int (nI i), .ref ow9]) (h' := h) (fun _ => rfl) ?_
  refine rt_aalN rfl cow9 rfl (by omega) (by decide) g1 ?_
  refine rt_k (k := 1) (pc' := 67) (L' := [some (.ref 23), some (.ref ga), some (.int (nI n)), some (.int (nI i))]) (st' := [.ref 23, .ref ua]) (h' := h) (fun _ => rfl) ?_
  refine rt_cvE rfl (by decide) c23 rfl rfl rfl rfl (m_here1 (ws := [w]) (i := 0) (tl := nI 0) (o := (mq (nI J.length) (nI nx) (nI D.length) (nI K.length) (nI made) (nI st.length) nc bc kn)) c23 c25 (by simp) (by simp) fw) ?_
  refine rt_cvE rfl (by decide) ucc rfl rfl rfl rfl (st_eq Su Sw) ?_
  refine rt_pe rfl (fun z1 => ?_) (fun z1 => ?_)
  rotate_left
  ·
    refine rt_k (k := 1) (pc' := 77) (L' := [some (.ref 23), some (.ref ga), some (.int (nI n)), some (.int (nI i))]) (st' := [.ref ga]) (h' := h) (fun _ => rfl) ?_
    refine rt_gf rfl cg rfl rfl ?_
    refine rt_k (k := 1) (pc' := 81) (L' := [some (.ref 23), some (.ref ga), some (.int (nI n)), some (.int (nI i))]) (st' := [.int (nI n), .ref rl]) (h' := h) (fun _ => rfl) ?_
    refine rt_aalN rfl cl rfl (by omega) (by decide) f1 ?_
    refine rt_gf rfl cr9 rfl rfl ?_
    exact rt_r (v := some (.int (nI (lNo e.1)))) rfl rfl (k1 (by rw [← z1]; exact List.mem_of_getElem? hu))
  refine rt_inc (c := 1) rfl rfl ?_
  refine rt_k (k := 1) (pc' := 42) (L' := [some (.ref 23), some (.ref ga), some (.int (nI n)), some (.int (nI (i + 1)))]) (st' := []) (h' := h) (fun _ => rfl) ?_
  exact m_ow2 c23 c25 fw Sw YG he k1 k (i + 1) z0 (fun j u' hj hu' => by
    by_cases q : j = i
    · subst q; rw [hu] at hu'; cases hu'; exact z1
    · exact H j u' (by omega) hu')
termination_by (lOw e.1).length - i
theorem m_ow1 {ga : Nat} (c23 : h[23]? = some (mo (nI 0) (nI 1) (nI 0) (mq (nI J.length) (nI nx) (nI D.length) (nI K.length) (nI made) (nI st.length) nc bc kn))) (c25 : h[25]? = some (.inl (9, 400, .inr (.inr (.inr (.inr F25)))))) (fw : F25 0 = some wa) (Sw : sS h wa w) (YG : yG h ad ga g) (i : Nat) (hi : i ≤ g.length) (H : ∀ (j : Nat) e, j < i → g[j]? = some e → ¬ w ∈ lOw e.1) (x3 : Option Value) : rt_ X (d + 2) 178 32 [some (.ref 23), some (.ref ga), some (.int (nI i)), x3] [] h (fun v h' => h' = h ∧ owS g w v) := by
  obtain ⟨rl, ci, RF, CF, ⟨-, cg⟩, ⟨-, cl⟩, ⟨-, cc⟩, g8, HG⟩ := id YG
  refine rt_k (k := 2) (pc' := 34) (L' := [some (.ref 23), some (.ref ga), some (.int (nI i)), x3]) (st' := [.ref ga, .int (nI i)]) (h' := h) (fun _ => by first | rfl | (cases x3 <;> rfl)) ?_
  refine rt_gf rfl cg rfl rfl ?_
  refine rt_ige rfl (by omega) (by omega) (fun z0 => ?_) (fun z0 => ?_)
  ·
    refine rt_k (k := 1) (pc' := 100) (L' := [some (.ref 23), some (.ref ga), some (.int (nI i)), x3]) (st' := [.int (-2)]) (h' := h) (fun _ => by first | rfl | (cases x3 <;> rfl)) ?_
    exact rt_r (v := some (.int (-2))) rfl rfl (⟨rfl, Or.inr ⟨fun e he q => by obtain ⟨j, hj⟩ := gt_mem he; exact H j e (by have := gt_lt hj; omega) hj q, rfl⟩⟩)
  obtain ⟨e, he⟩ := gt_ex z0
  refine rt_k (k := 2) (pc' := 42) (L' := [some (.ref 23), some (.ref ga), some (.int (nI i)), some (.int (nI 0))]) (st' := []) (h' := h) (fun _ => by first | rfl | (cases x3 <;> rfl)) ?_
  refine m_ow2 c23 c25 fw Sw YG he (fun q => ⟨rfl, Or.inl ⟨i, e, he, q, H, rfl⟩⟩) (fun y3 q => ?_) 0 (Nat.zero_le _) (fun j u hj => absurd hj (Nat.not_lt_zero _))
  refine rt_inc (c := 1) rfl rfl ?_
  refine rt_k (k := 1) (pc' := 32) (L' := [some (.ref 23), some (.ref ga), some (.int (nI (i + 1))), y3]) (st' := []) (h' := h) (fun _ => by first | rfl | (cases y3 <;> rfl)) ?_
  exact m_ow1 c23 c25 fw Sw YG (i + 1) z0 (fun j e' hj he' => by
    by_cases y : j = i
    · subst y; rw [he] at he'; cases he'; exact q
    · exact H j e' (by omega) he') _
termination_by g.length - i
theorem m_owner (C : mKp h ad T J nx D K made st) (hg : K[K.length - 1]? = some g) : rt_ X (d + 6) 178 0 [some (.ref 23), none, none, none] [] h (fun v h' => gr mB (mcl T) (msl T) h h' ∧ mKp h' ad [] J nx D K made st ∧ owR (wl T) g v) := by
  obtain ⟨l39, ⟨nw, pa, nc, bc, kn, c23, CA⟩, ⟨⟨tg, t1, t2⟩, t3, t4⟩, W, CI, CD, CK, -⟩ := id C
  refine rt_k (k := 1) (pc' := 1) (L' := [some (.ref 23), none, none, none]) (st' := [.ref 23]) (h' := h) (fun _ => rfl) ?_
  refine rt_cv rfl (by decide) c23 rfl rfl rfl rfl (m_readWords l39 c23 t1 t2 ⟨t3, t4⟩ W) ?_
  rintro _ h1 ⟨rfl, g1, d23, W1⟩
  generalize ews : wl T = ws at *
  have l1 := g1.1
  obtain ⟨F25, d25, hw4, HF⟩ := id W1
  have E1 := gr_ex g1 mA_zz
  have CK1 : mKs h1 ad K := CK.ex E1 (g1.2.2.2 29 (by omega) (by decide))
  have fin : ∀ v, owR ws g v → gr mB (mcl T) (msl T) h h1 ∧ mKp h1 ad [] J nx D K made st ∧ owR ws g v := fun v q => ⟨gr_mo g1 mA_B (by unfold mcl; omega) (by unfold msl; omega), C.rd c23 g1 W1.nil d23, q⟩
  refine rt_k (k := 1) (pc' := 5) (L' := [some (.ref 23), none, none, none]) (st' := [.ref 23]) (h' := h1) (fun _ => rfl) ?_
  refine rt_gf rfl d23 rfl rfl ?_
  refine rt_k (k := 1) (pc' := 9) (L' := [some (.ref 23), none, none, none]) (st' := [.int (nI 1), .int (nI ws.length)]) (h' := h1) (fun _ => rfl) ?_
  refine rt_ine rfl (by omega) (by decide) (fun z => ?_) (fun z => ?_)
  ·
    refine rt_k (k := 1) (pc' := 24) (L' := [some (.ref 23), none, none, none]) (st' := [.int (-6)]) (h' := h1) (fun _ => rfl) ?_
    exact rt_r (v := some (.int (-6))) rfl rfl (fin _ (Or.inr ⟨(fun ⟨w, e, _⟩ => z (by rw [e]; rfl)), rfl⟩))
  obtain ⟨w, rfl⟩ : ∃ w, ws = [w] := by
    match ws, z with
    | [w], _ => exact ⟨w, rfl⟩
    | [], z => simp at z
    | _ :: _ :: _, z => simp at z
  obtain ⟨wa, fw, Sw⟩ := HF 0 w rfl
  refine rt_k (k := 1) (pc' := 13) (L' := [some (.ref 23), none, none, none]) (st' := [.ref 23]) (h' := h1) (fun _ => rfl) ?_
  refine rt_cvE rfl (by decide) d23 rfl rfl rfl rfl (m_here1 (ws := [w]) (i := 0) (tl := nI 0) (o := (mq (nI J.length) (nI nx) (nI D.length) (nI K.length) (nI made) (nI st.length) nc bc kn)) d23 d25 hw4 (by simp) fw) ?_
  refine rt_cE rfl rfl (m_isPath Sw) ?_
  refine rt_pn rfl (fun z1 => ?_) (fun z1 => ?_)
  rotate_left
  ·
    refine rt_k (k := 1) (pc' := 24) (L' := [some (.ref 23), none, none, none]) (st' := [.int (-6)]) (h' := h1) (fun _ => rfl) ?_
    exact rt_r (v := some (.int (-6))) rfl rfl (fin _ (Or.inr ⟨(fun ⟨w', e, e1⟩ => by cases e; exact z1 e1), rfl⟩))
  refine rt_k (k := 1) (pc' := 26) (L' := [some (.ref 23), none, none, none]) (st' := [.ref 23]) (h' := h1) (fun _ => rfl) ?_
  refine rt_cvH rfl (by decide) d23 rfl rfl rfl rfl (m_cur0 (d := d + 5) d23 CK1 hg) ?_
  rintro _ ⟨a, rfl, YG⟩
  refine rt_k (k := 3) (pc' := 32) (L' := [some (.ref 23), some (.ref a), some (.int (nI 0)), none]) (st' := []) (h' := h1) (fun _ => rfl) ?_
  refine rt_w (m_ow1 (d := d + 4) d23 d25 fw Sw YG 0 (Nat.zero_le _) (fun j e hj => absurd hj (Nat.not_lt_zero _)) _) ?_
  rintro v h2 ⟨rfl, q⟩
  exact fin v (Or.inl ⟨w, rfl, z1, q⟩)
end NL

