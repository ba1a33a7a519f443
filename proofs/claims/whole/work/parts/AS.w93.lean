/-! THE REFERENCE, 28: hopeful, newest. -/
def hpN (N : List kW) (A : List (Option kL)) : Prop := ∃ (k : Nat) (r : kL), A[k]? = some (some r) ∧ ((∃ e ∈ lNe r, ∃ j : Nat, N[j]? = some e.1 ∧ (A[j]? = some none ∨ ∃ s, A[j]? = some (some s) ∧ ¬ rP (lVe s) e.2)) ∨ ∃ e ∈ lBr r, ∃ (j : Nat) (s : kL), A[j]? = some (some s) ∧ lNm s = e.1 ∧ rP (lVe s) e.2)
section NC
variable {X : Nat × (Nat → Int32)} {d : Nat} {h : List va_E} {Q : Option Value → List va_E → Prop} {ad : Nat → Nat} {J : List kL} {D : kD} {x y z md kc gn sp nc bc kn : Int32}
variable {F NF : Nat → Option Nat} {A : List (Option kL)} {N : List kW}
theorem m_hp1 {m n : Nat} {r : kL} {e : kW × kR} (c23 : h[23]? = some (mo x y z (mq (nI J.length) md (nI D.length) kc gn sp nc bc kn))) (c32 : h[32]? = some (.inl (9, 8, .inr (.inr (.inr (.inr NF)))))) (hN : mWf h NF N) (hl : A.length ≤ N.length) (CA : yA h ad 33 F A) (hr : A[m]? = some (some r)) (he : (lNe r)[n]? = some e) (k0 : hpN N A → Q (some (.int (nI 0))) h) (k : ∀ y5, rt_ X (d + 10) 165 103 [some (.ref 23), some (.int (nI A.length)), some (.int (nI m)), some (.ref (ad (lNo r))), some (.int (nI n)), y5] [] h Q) (i : Nat) (hi : i ≤ A.length) : rt_ X (d + 10) 165 36 [some (.ref 23), some (.int (nI A.length)), some (.int (nI m)), some (.ref (ad (lNo r))), some (.int (nI n)), some (.int (nI i))] [] h Q := by
  obtain ⟨ca, hA, HA⟩ := id CA
  obtain ⟨-, Yr⟩ := HA m _ hr
  obtain ⟨nm1, ve1, nd1, nr1, bk1, br1, ow1, NF1, RF1, BF1, QF1, OF1, ⟨zr1, cr1⟩, ⟨-, cnd1⟩, ⟨-, cnr1⟩, ⟨-, cbk1⟩, ⟨-, cbr1⟩, ⟨-, cow1⟩, hln1, Sn1, Vn1, DN1, DB1, WO1⟩ := id (Yr)
  obtain ⟨⟨b, g1, Sb⟩, ra, g2, Yra⟩ := DN1 n e he
  have ln := gt_lt he
  refine rt_k (k := 2) (pc' := 39) (L' := [some (.ref 23), some (.int (nI A.length)), some (.int (nI m)), some (.ref (ad (lNo r))), some (.int (nI n)), some (.int (nI i))]) (st' := [.int (nI A.length), .int (nI i)]) (h' := h) (fun _ => rfl) ?_
  refine rt_ige rfl (by omega) (by omega) (fun z0 => ?_) (fun z0 => ?_)
  ·
    exact k _
  obtain ⟨u, hu⟩ := gt_ex (show i < N.length by omega)
  obtain ⟨ua, f1, Su⟩ := hN i u hu
  obtain ⟨uv, ux, uy, ucc, -, -⟩ := Su.at
  have nxt : ∀ st : List Value, st = [] → rt_ X (d + 10) 165 97 [some (.ref 23), some (.int (nI A.length)), some (.int (nI m)), some (.ref (ad (lNo r))), some (.int (nI n)), some (.int (nI i))] st h Q := fun st q => by
    subst q
    refine rt_inc (c := 1) rfl rfl ?_
    refine rt_k (k := 1) (pc' := 36) (L' := [some (.ref 23), some (.int (nI A.length)), some (.int (nI m)), some (.ref (ad (lNo r))), some (.int (nI n)), some (.int (nI (i + 1)))]) (st' := []) (h' := h) (fun _ => rfl) ?_
    exact m_hp1 c23 c32 hN hl CA hr he k0 k (i + 1) z0
  refine rt_k (k := 1) (pc' := 43) (L' := [some (.ref 23), some (.int (nI A.length)), some (.int (nI m)), some (.ref (ad (lNo r))), some (.int (nI n)), some (.int (nI i))]) (st' := [.ref 23]) (h' := h) (fun _ => rfl) ?_
  refine rt_gf rfl c23 rfl rfl ?_
  refine rt_k (k := 1) (pc' := 48) (L' := [some (.ref 23), some (.int (nI A.length)), some (.int (nI m)), some (.ref (ad (lNo r))), some (.int (nI n)), some (.int (nI i))]) (st' := [.int (nI i), .ref 32]) (h' := h) (fun _ => rfl) ?_
  refine rt_aalN rfl c32 rfl (by omega) (by decide) f1 ?_
  refine rt_k (k := 1) (pc' := 50) (L' := [some (.ref 23), some (.int (nI A.length)), some (.int (nI m)), some (.ref (ad (lNo r))), some (.int (nI n)), some (.int (nI i))]) (st' := [.ref (ad (lNo r)), .ref ua]) (h' := h) (fun _ => rfl) ?_
  refine rt_gf rfl cr1 rfl rfl ?_
  refine rt_k (k := 1) (pc' := 55) (L' := [some (.ref 23), some (.int (nI A.length)), some (.int (nI m)), some (.ref (ad (lNo r))), some (.int (nI n)), some (.int (nI i))]) (st' := [.int (nI n), .ref nd1, .ref ua]) (h' := h) (fun _ => rfl) ?_
  refine rt_aalN rfl cnd1 rfl (by omega) (by decide) g1 ?_
  refine rt_cvE rfl (by decide) ucc rfl rfl rfl rfl (st_eq Su Sb) ?_
  refine rt_pe rfl (fun z1 => ?_) (fun z1 => ?_)
  ·
    exact nxt _ rfl
  obtain ⟨x0, hx⟩ := gt_ex z0
  have Y0 := HA i x0 hx
  rw [z1] at hu
  cases x0 with
  | none =>
    have f2 : F i = none := Y0
    refine rt_k (k := 1) (pc' := 63) (L' := [some (.ref 23), some (.int (nI A.length)), some (.int (nI m)), some (.ref (ad (lNo r))), some (.int (nI n)), some (.int (nI i))]) (st' := [.ref 23]) (h' := h) (fun _ => rfl) ?_
    refine rt_gf rfl c23 rfl rfl ?_
    refine rt_k (k := 1) (pc' := 68) (L' := [some (.ref 23), some (.int (nI A.length)), some (.int (nI m)), some (.ref (ad (lNo r))), some (.int (nI n)), some (.int (nI i))]) (st' := [.int (nI i), .ref 33]) (h' := h) (fun _ => rfl) ?_
    refine rt_aalO rfl ca rfl (by omega) (by decide) f2 ?_
    refine rt_k (k := 2) (pc' := 96) (L' := [some (.ref 23), some (.int (nI A.length)), some (.int (nI m)), some (.ref (ad (lNo r))), some (.int (nI n)), some (.int (nI i))]) (st' := [.int (nI 0)]) (h' := h) (fun _ => rfl) ?_
    exact rt_r (v := some (.int (nI 0))) rfl rfl (k0 ⟨m, r, hr, Or.inl ⟨e, List.mem_of_getElem? he, i, hu, Or.inl hx⟩⟩)
  | some s =>
    obtain ⟨f2, Ys⟩ := Y0
    obtain ⟨nm2, ve2, nd2, nr2, bk2, br2, ow2, NF2, RF2, BF2, QF2, OF2, ⟨zr2, cr2⟩, ⟨-, cnd2⟩, ⟨-, cnr2⟩, ⟨-, cbk2⟩, ⟨-, cbr2⟩, ⟨-, cow2⟩, hln2, Sn2, Vn2, DN2, DB2, WO2⟩ := id (Ys)
    refine rt_k (k := 1) (pc' := 63) (L' := [some (.ref 23), some (.int (nI A.length)), some (.int (nI m)), some (.ref (ad (lNo r))), some (.int (nI n)), some (.int (nI i))]) (st' := [.ref 23]) (h' := h) (fun _ => rfl) ?_
    refine rt_gf rfl c23 rfl rfl ?_
    refine rt_k (k := 1) (pc' := 68) (L' := [some (.ref 23), some (.int (nI A.length)), some (.int (nI m)), some (.ref (ad (lNo r))), some (.int (nI n)), some (.int (nI i))]) (st' := [.int (nI i), .ref 33]) (h' := h) (fun _ => rfl) ?_
    refine rt_aalN rfl ca rfl (by omega) (by decide) f2 ?_
    refine rt_k (k := 2) (pc' := 73) (L' := [some (.ref 23), some (.int (nI A.length)), some (.int (nI m)), some (.ref (ad (lNo r))), some (.int (nI n)), some (.int (nI i))]) (st' := [.ref 23]) (h' := h) (fun _ => rfl) ?_
    refine rt_gf rfl c23 rfl rfl ?_
    refine rt_k (k := 1) (pc' := 78) (L' := [some (.ref 23), some (.int (nI A.length)), some (.int (nI m)), some (.ref (ad (lNo r))), some (.int (nI n)), some (.int (nI i))]) (st' := [.int (nI i), .ref 33]) (h' := h) (fun _ => rfl) ?_
    refine rt_aalN rfl ca rfl (by omega) (by decide) f2 ?_
    refine rt_gf rfl cr2 rfl rfl ?_
    refine rt_k (k := 1) (pc' := 83) (L' := [some (.ref 23), some (.int (nI A.length)), some (.int (nI m)), some (.ref (ad (lNo r))), some (.int (nI n)), some (.int (nI i))]) (st' := [.ref (ad (lNo r)), .ref ve2]) (h' := h) (fun _ => rfl) ?_
    refine rt_gf rfl cr1 rfl rfl ?_
    refine rt_k (k := 1) (pc' := 88) (L' := [some (.ref 23), some (.int (nI A.length)), some (.int (nI m)), some (.ref (ad (lNo r))), some (.int (nI n)), some (.int (nI i))]) (st' := [.int (nI n), .ref nr1, .ref ve2]) (h' := h) (fun _ => rfl) ?_
    refine rt_aalN rfl cnr1 rfl (by omega) (by decide) g2 ?_
    refine rt_cE rfl rfl (m_in (d := d) Vn2 Yra) ?_
    refine rt_pn rfl (fun z2 => ?_) (fun z2 => ?_)
    ·
      exact nxt _ rfl
    refine rt_k (k := 1) (pc' := 96) (L' := [some (.ref 23), some (.int (nI A.length)), some (.int (nI m)), some (.ref (ad (lNo r))), some (.int (nI n)), some (.int (nI i))]) (st' := [.int (nI 0)]) (h' := h) (fun _ => rfl) ?_
    exact rt_r (v := some (.int (nI 0))) rfl rfl (k0 ⟨m, r, hr, Or.inl ⟨e, List.mem_of_getElem? he, i, hu, Or.inr ⟨s, hx, z2⟩⟩⟩)
termination_by A.length - i
theorem m_hp2 {m : Nat} {r : kL} (c23 : h[23]? = some (mo x y z (mq (nI J.length) md (nI D.length) kc gn sp nc bc kn))) (c32 : h[32]? = some (.inl (9, 8, .inr (.inr (.inr (.inr NF)))))) (hN : mWf h NF N) (hl : A.length ≤ N.length) (CA : yA h ad 33 F A) (hr : A[m]? = some (some r)) (k0 : hpN N A → Q (some (.int (nI 0))) h) (k : ∀ y4 y5, rt_ X (d + 10) 165 109 [some (.ref 23), some (.int (nI A.length)), some (.int (nI m)), some (.ref (ad (lNo r))), y4, y5] [] h Q) (x5 : Option Value) (i : Nat) (hi : i ≤ (lNe r).length) : rt_ X (d + 10) 165 24 [some (.ref 23), some (.int (nI A.length)), some (.int (nI m)), some (.ref (ad (lNo r))), some (.int (nI i)), x5] [] h Q := by
  obtain ⟨-, Yr⟩ := CA.2.2 m _ hr
  obtain ⟨nm1, ve1, nd1, nr1, bk1, br1, ow1, NF1, RF1, BF1, QF1, OF1, ⟨zr1, cr1⟩, ⟨-, cnd1⟩, ⟨-, cnr1⟩, ⟨-, cbk1⟩, ⟨-, cbr1⟩, ⟨-, cow1⟩, hln1, Sn1, Vn1, DN1, DB1, WO1⟩ := id (Yr)
  refine rt_k (k := 2) (pc' := 27) (L' := [some (.ref 23), some (.int (nI A.length)), some (.int (nI m)), some (.ref (ad (lNo r))), some (.int (nI i)), x5]) (st' := [.ref (ad (lNo r)), .int (nI i)]) (h' := h) (fun _ => by first | rfl | (cases x5 <;> rfl)) ?_
  refine rt_gf rfl cr1 rfl rfl ?_
  refine rt_ige rfl (by omega) (by omega) (fun z0 => ?_) (fun z0 => ?_)
  ·
    exact k _ _
  obtain ⟨e, he⟩ := gt_ex z0
  refine rt_k (k := 2) (pc' := 36) (L' := [some (.ref 23), some (.int (nI A.length)), some (.int (nI m)), some (.ref (ad (lNo r))), some (.int (nI i)), some (.int (nI 0))]) (st' := []) (h' := h) (fun _ => by first | rfl | (cases x5 <;> rfl)) ?_
  refine m_hp1 c23 c32 hN hl CA hr he k0 (fun y5 => ?_) 0 (Nat.zero_le _)
  refine rt_inc (c := 1) rfl rfl ?_
  refine rt_k (k := 1) (pc' := 24) (L' := [some (.ref 23), some (.int (nI A.length)), some (.int (nI m)), some (.ref (ad (lNo r))), some (.int (nI (i + 1))), y5]) (st' := []) (h' := h) (fun _ => by first | rfl | (cases y5 <;> rfl)) ?_
  exact m_hp2 c23 c32 hN hl CA hr k0 k _ (i + 1) z0
termination_by (lNe r).length - i
theorem m_hp3 {m : Nat} {r : kL} (c23 : h[23]? = some (mo x y z (mq (nI J.length) md (nI D.length) kc gn sp nc bc kn))) (CA : yA h ad 33 F A) (hr : A[m]? = some (some r)) (k0 : hpN N A → Q (some (.int (nI 0))) h) (k : ∀ y4 y5, rt_ X (d + 10) 165 169 [some (.ref 23), some (.int (nI A.length)), some (.int (nI m)), some (.ref (ad (lNo r))), y4, y5] [] h Q) (x5 : Option Value) (i : Nat) (hi : i ≤ (lBr r).length) : rt_ X (d + 10) 165 112 [some (.ref 23), some (.int (nI A.length)), some (.int (nI m)), some (.ref (ad (lNo r))), some (.int (nI i)), x5] [] h Q := by
  obtain ⟨ca, hA, HA⟩ := id CA
  obtain ⟨-, Yr⟩ := HA m _ hr
  obtain ⟨nm1, ve1, nd1, nr1, bk1, br1, ow1, NF1, RF1, BF1, QF1, OF1, ⟨zr1, cr1⟩, ⟨-, cnd1⟩, ⟨-, cnr1⟩, ⟨-, cbk1⟩, ⟨-, cbr1⟩, ⟨-, cow1⟩, hln1, Sn1, Vn1, DN1, DB1, WO1⟩ := id (Yr)
  refine rt_k (k := 2) (pc' := 115) (L' := [some (.ref 23), some (.int (nI A.length)), some (.int (nI m)), some (.ref (ad (lNo r))), some (.int (nI i)), x5]) (st' := [.ref (ad (lNo r)), .int (nI i)]) (h' := h) (fun _ => by first | rfl | (cases x5 <;> rfl)) ?_
  refine rt_gf rfl cr1 rfl rfl ?_
  refine rt_ige rfl (by omega) (by omega) (fun z0 => ?_) (fun z0 => ?_)
  ·
    exact k _ _
  obtain ⟨e, he⟩ := gt_ex z0
  obtain ⟨⟨b, f1, Sb⟩, ra, f2, Yra⟩ := DB1 i e he
  refine rt_k (k := 1) (pc' := 122) (L' := [some (.ref 23), some (.int (nI A.length)), some (.int (nI m)), some (.ref (ad (lNo r))), some (.int (nI i)), x5]) (st' := [.ref 23]) (h' := h) (fun _ => by first | rfl | (cases x5 <;> rfl)) ?_
  refine rt_gf rfl c23 rfl rfl ?_
  refine rt_k (k := 2) (pc' := 127) (L' := [some (.ref 23), some (.int (nI A.length)), some (.int (nI m)), some (.ref (ad (lNo r))), some (.int (nI i)), x5]) (st' := [.ref (ad (lNo r)), .int (nI A.length), .ref 33]) (h' := h) (fun _ => by first | rfl | (cases x5 <;> rfl)) ?_
  refine rt_gf rfl cr1 rfl rfl ?_
  refine rt_k (k := 1) (pc' := 132) (L' := [some (.ref 23), some (.int (nI A.length)), some (.int (nI m)), some (.ref (ad (lNo r))), some (.int (nI i)), x5]) (st' := [.int (nI i), .ref bk1, .int (nI A.length), .ref 33]) (h' := h) (fun _ => by first | rfl | (cases x5 <;> rfl)) ?_
  refine rt_aalN rfl cbk1 rfl (by omega) (by decide) f1 ?_
  refine rt_cH rfl rfl (m_of (d := d + 7) CA Sb) ?_
  rintro _ (⟨i', s, e1, e2, rfl⟩ | ⟨e1, rfl⟩)
  ·
    obtain ⟨nm2, ve2, nd2, nr2, bk2, br2, ow2, NF2, RF2, BF2, QF2, OF2, ⟨zr2, cr2⟩, ⟨-, cnd2⟩, ⟨-, cnr2⟩, ⟨-, cbk2⟩, ⟨-, cbr2⟩, ⟨-, cow2⟩, hln2, Sn2, Vn2, DN2, DB2, WO2⟩ := id (yA.at CA e1)
    refine rt_k (k := 4) (pc' := 145) (L' := [some (.ref 23), some (.int (nI A.length)), some (.int (nI m)), some (.ref (ad (lNo r))), some (.int (nI i)), some (.ref (ad (lNo s)))]) (st' := [.ref (ad (lNo s))]) (h' := h) (fun _ => by first | rfl | (cases x5 <;> rfl)) ?_
    refine rt_gf rfl cr2 rfl rfl ?_
    refine rt_k (k := 1) (pc' := 149) (L' := [some (.ref 23), some (.int (nI A.length)), some (.int (nI m)), some (.ref (ad (lNo r))), some (.int (nI i)), some (.ref (ad (lNo s)))]) (st' := [.ref (ad (lNo r)), .ref ve2]) (h' := h) (fun _ => by first | rfl | (cases x5 <;> rfl)) ?_
    refine rt_gf rfl cr1 rfl rfl ?_
    refine rt_k (k := 1) (pc' := 154) (L' := [some (.ref 23), some (.int (nI A.length)), some (.int (nI m)), some (.ref (ad (lNo r))), some (.int (nI i)), some (.ref (ad (lNo s)))]) (st' := [.int (nI i), .ref br1, .ref ve2]) (h' := h) (fun _ => by first | rfl | (cases x5 <;> rfl)) ?_
    refine rt_aalN rfl cbr1 rfl (by omega) (by decide) f2 ?_
    refine rt_cE rfl rfl (m_in (d := d) Vn2 Yra) ?_
    refine rt_pe rfl (fun z1 => ?_) (fun z1 => ?_)
    rotate_left
    ·
      refine rt_k (k := 1) (pc' := 162) (L' := [some (.ref 23), some (.int (nI A.length)), some (.int (nI m)), some (.ref (ad (lNo r))), some (.int (nI i)), some (.ref (ad (lNo s)))]) (st' := [.int (nI 0)]) (h' := h) (fun _ => by first | rfl | (cases x5 <;> rfl)) ?_
      exact rt_r (v := some (.int (nI 0))) rfl rfl (k0 ⟨m, r, hr, Or.inr ⟨e, List.mem_of_getElem? he, i', s, e1, e2, z1⟩⟩)
    refine rt_inc (c := 1) rfl rfl ?_
    refine rt_k (k := 1) (pc' := 112) (L' := [some (.ref 23), some (.int (nI A.length)), some (.int (nI m)), some (.ref (ad (lNo r))), some (.int (nI (i + 1))), some (.ref (ad (lNo s)))]) (st' := []) (h' := h) (fun _ => by first | rfl | (cases x5 <;> rfl)) ?_
    exact m_hp3 c23 CA hr k0 k _ (i + 1) z0
  refine rt_k (k := 3) (pc' := 163) (L' := [some (.ref 23), some (.int (nI A.length)), some (.int (nI m)), some (.ref (ad (lNo r))), some (.int (nI i)), some (.null)]) (st' := []) (h' := h) (fun _ => by first | rfl | (cases x5 <;> rfl)) ?_
  refine rt_inc (c := 1) rfl rfl ?_
  refine rt_k (k := 1) (pc' := 112) (L' := [some (.ref 23), some (.int (nI A.length)), some (.int (nI m)), some (.ref (ad (lNo r))), some (.int (nI (i + 1))), some (.null)]) (st' := []) (h' := h) (fun _ => by first | rfl | (cases x5 <;> rfl)) ?_
  exact m_hp3 c23 CA hr k0 k _ (i + 1) z0
termination_by (lBr r).length - i
def hpP (N : List kW) (A : List (Option kL)) (v : Option Value) : Prop := v = some (.int (nI 1)) ∨ (v = some (.int (nI 0)) ∧ hpN N A)
theorem m_hp0 (c23 : h[23]? = some (mo x y z (mq (nI J.length) md (nI D.length) kc gn sp nc bc kn))) (c32 : h[32]? = some (.inl (9, 8, .inr (.inr (.inr (.inr NF)))))) (hN : mWf h NF N) (hl : A.length ≤ N.length) (CA : yA h ad 33 F A) (x3 x4 x5 : Option Value) (i : Nat) (hi : i ≤ A.length) : rt_ X (d + 10) 165 2 [some (.ref 23), some (.int (nI A.length)), some (.int (nI i)), x3, x4, x5] [] h (fun v h' => h' = h ∧ hpP N A v) := by
  obtain ⟨ca, hA, HA⟩ := id CA
  refine rt_k (k := 2) (pc' := 4) (L' := [some (.ref 23), some (.int (nI A.length)), some (.int (nI i)), x3, x4, x5]) (st' := [.int (nI A.length), .int (nI i)]) (h' := h) (fun _ => by first | rfl | (cases x3 <;> rfl) | (cases x4 <;> rfl) | (cases x5 <;> rfl) | (cases x3 <;> cases x4 <;> cases x5 <;> rfl)) ?_
  refine rt_ige rfl (by omega) (by omega) (fun z0 => ?_) (fun z0 => ?_)
  ·
    refine rt_k (k := 1) (pc' := 176) (L' := [some (.ref 23), some (.int (nI A.length)), some (.int (nI i)), x3, x4, x5]) (st' := [.int (nI 1)]) (h' := h) (fun _ => by first | rfl | (cases x3 <;> rfl) | (cases x4 <;> rfl) | (cases x5 <;> rfl) | (cases x3 <;> cases x4 <;> cases x5 <;> rfl)) ?_
    exact rt_r (v := some (.int (nI 1))) rfl rfl (⟨rfl, Or.inl rfl⟩)
  obtain ⟨x0, hx⟩ := gt_ex z0
  have Y0 := HA i x0 hx
  cases x0 with
  | none =>
    have f1 : F i = none := Y0
    refine rt_k (k := 1) (pc' := 8) (L' := [some (.ref 23), some (.int (nI A.length)), some (.int (nI i)), x3, x4, x5]) (st' := [.ref 23]) (h' := h) (fun _ => by first | rfl | (cases x3 <;> rfl) | (cases x4 <;> rfl) | (cases x5 <;> rfl) | (cases x3 <;> cases x4 <;> cases x5 <;> rfl)) ?_
    refine rt_gf rfl c23 rfl rfl ?_
    refine rt_k (k := 1) (pc' := 12) (L' := [some (.ref 23), some (.int (nI A.length)), some (.int (nI i)), x3, x4, x5]) (st' := [.int (nI i), .ref 33]) (h' := h) (fun _ => by first | rfl | (cases x3 <;> rfl) | (cases x4 <;> rfl) | (cases x5 <;> rfl) | (cases x3 <;> cases x4 <;> cases x5 <;> rfl)) ?_
    refine rt_aalO rfl ca rfl (by omega) (by decide) f1 ?_
    refine rt_k (k := 4) (pc' := 169) (L' := [some (.ref 23), some (.int (nI A.length)), some (.int (nI i)), some (.null), x4, x5]) (st' := []) (h' := h) (fun _ => by first | rfl | (cases x3 <;> rfl) | (cases x4 <;> rfl) | (cases x5 <;> rfl) | (cases x3 <;> cases x4 <;> cases x5 <;> rfl)) ?_
    refine rt_inc (c := 1) rfl rfl ?_
    refine rt_k (k := 1) (pc' := 2) (L' := [some (.ref 23), some (.int (nI A.length)), some (.int (nI (i + 1))), some (.null), x4, x5]) (st' := []) (h' := h) (fun _ => by first | rfl | (cases x3 <;> rfl) | (cases x4 <;> rfl) | (cases x5 <;> rfl) | (cases x3 <;> cases x4 <;> cases x5 <;> rfl)) ?_
    exact m_hp0 c23 c32 hN hl CA _ _ _ (i + 1) z0
  | some r =>
    obtain ⟨f1, Yr⟩ := Y0
    refine rt_k (k := 1) (pc' := 8) (L' := [some (.ref 23), some (.int (nI A.length)), some (.int (nI i)), x3, x4, x5]) (st' := [.ref 23]) (h' := h) (fun _ => by first | rfl | (cases x3 <;> rfl) | (cases x4 <;> rfl) | (cases x5 <;> rfl) | (cases x3 <;> cases x4 <;> cases x5 <;> rfl)) ?_
    refine rt_gf rfl c23 rfl rfl ?_
    refine rt_k (k := 1) (pc' := 12) (L' := [some (.ref 23), some (.int (nI A.length)), some (.int (nI i)), x3, x4, x5]) (st' := [.int (nI i), .ref 33]) (h' := h) (fun _ => by first | rfl | (cases x3 <;> rfl) | (cases x4 <;> rfl) | (cases x5 <;> rfl) | (cases x3 <;> cases x4 <;> cases x5 <;> rfl)) ?_
    refine rt_aalN rfl ca rfl (by omega) (by decide) f1 ?_
    refine rt_k (k := 5) (pc' := 24) (L' := [some (.ref 23), some (.int (nI A.length)), some (.int (nI i)), some (.ref (ad (lNo r))), some (.int (nI 0)), x5]) (st' := []) (h' := h) (fun _ => by first | rfl | (cases x3 <;> rfl) | (cases x4 <;> rfl) | (cases x5 <;> rfl) | (cases x3 <;> cases x4 <;> cases x5 <;> rfl)) ?_
    refine m_hp2 c23 c32 hN hl CA hx (fun q => ⟨rfl, Or.inr ⟨rfl, q⟩⟩) (fun y4 y5 => ?_) _ 0 (Nat.zero_le _)
    refine rt_k (k := 2) (pc' := 112) (L' := [some (.ref 23), some (.int (nI A.length)), some (.int (nI i)), some (.ref (ad (lNo r))), some (.int (nI 0)), y5]) (st' := []) (h' := h) (fun _ => by first | rfl | (cases y4 <;> rfl) | (cases y5 <;> rfl) | (cases y4 <;> cases y5 <;> rfl)) ?_
    refine m_hp3 (N := N) c23 CA hx (fun q => ⟨rfl, Or.inr ⟨rfl, q⟩⟩) (fun y4 y5 => ?_) _ 0 (Nat.zero_le _)
    refine rt_inc (c := 1) rfl rfl ?_
    refine rt_k (k := 1) (pc' := 2) (L' := [some (.ref 23), some (.int (nI A.length)), some (.int (nI (i + 1))), some (.ref (ad (lNo r))), y4, y5]) (st' := []) (h' := h) (fun _ => by first | rfl | (cases y4 <;> rfl) | (cases y5 <;> rfl) | (cases y4 <;> cases y5 <;> rfl)) ?_
    exact m_hp0 c23 c32 hN hl CA _ _ _ (i + 1) z0
termination_by A.length - i
theorem m_hopeful (c23 : h[23]? = some (mo x y z (mq (nI J.length) md (nI D.length) kc gn sp nc bc kn))) (c32 : h[32]? = some (.inl (9, 8, .inr (.inr (.inr (.inr NF)))))) (hN : mWf h NF N) (hl : A.length ≤ N.length) (CA : yA h ad 33 F A) : rt_ X (d + 10) 165 0 [some (.ref 23), some (.int (nI A.length)), none, none, none, none] [] h (fun v h' => h' = h ∧ hpP N A v) := by
  refine rt_k (k := 2) (pc' := 2) (L' := [some (.ref 23), some (.int (nI A.length)), some (.int (nI 0)), none, none, none]) (st' := []) (h' := h) (fun _ => rfl) ?_
  exact m_hp0 c23 c32 hN hl CA none none none 0 (Nat.zero_le _)
/-! the newest release of a name below one -/
def vO (ad : Nat → Nat) (x : Option kL) : Value := match x with
  | none => .null
  | some r => .ref (ad (lNo r))
def blw (s : kL) (th : Option kL) : Prop := match th with
  | none => True
  | some t => vc (lVe s) (lVe t) < 0
def nwS (L : List kL) (w : kW) (th cur : Option kL) : Prop := match cur with
  | none => ∀ s ∈ L, lNm s = w → ¬ blw s th
  | some r => r ∈ L ∧ lNm r = w ∧ blw r th ∧ ∀ s ∈ L, lNm s = w → blw s th → ¬ 0 < vc (lVe s) (lVe r)
theorem nwS_sk {w : kW} {th cur : Option kL} {i : Nat} {s : kL} (hs : J[i]? = some s) (C : nwS (J.take i) w th cur) (n : lNm s = w → blw s th → ∃ r, cur = some r ∧ ¬ 0 < vc (lVe s) (lVe r)) : nwS (J.take (i + 1)) w th cur := by
  rw [take_sn hs]
  cases cur with
  | none =>
    intro t ht a b
    rcases List.mem_append.mp ht with y | y
    · exact C t y a b
    · rw [List.mem_singleton] at y
      subst y
      obtain ⟨r, q, _⟩ := n a b
      cases q
  | some r =>
    refine ⟨List.mem_append.mpr (Or.inl C.1), C.2.1, C.2.2.1, fun t ht a b => ?_⟩
    rcases List.mem_append.mp ht with y | y
    · exact C.2.2.2 t y a b
    · rw [List.mem_singleton] at y
      subst y
      obtain ⟨r', q, q2⟩ := n a b
      cases q
      exact q2
theorem nwS_nw {w : kW} {th cur : Option kL} {i : Nat} {s : kL} (hs : J[i]? = some s) (C : nwS (J.take i) w th cur) (a : lNm s = w) (b : blw s th) (n : ∀ r, cur = some r → 0 < vc (lVe s) (lVe r)) : nwS (J.take (i + 1)) w th (some s) := by
  rw [take_sn hs]
  refine ⟨List.mem_append.mpr (Or.inr (List.mem_singleton.mpr rfl)), a, b, fun t ht a' b' q => ?_⟩
  rcases List.mem_append.mp ht with y | y
  · cases cur with
    | none => exact C t y a' b'
    | some r =>
      have h1 := C.2.2.2 t y a' b'
      have h2 := n r rfl
      rw [vc_gt] at q h1 h2
      exact h1 (vc_tr h2 q)
  · rw [List.mem_singleton] at y
    subst y
    have := vc_sy (lVe t) (lVe t)
    rcases vc3 (lVe t) (lVe t) with y | y | y <;> rw [y] at this q <;> first | exact absurd this (by decide) | exact absurd q (by decide)
theorem m_nw1 {na : Nat} {w : kW} {th : Option kL} (c23 : h[23]? = some (mo x y z (mq (nI J.length) md (nI D.length) kc gn sp nc bc kn))) (CI : mI h ad J) (S : sS h na w) (Yt : ∀ t, th = some t → yL h (ad (lNo t)) t) (x5 : Option Value) (i : Nat) (hi : i ≤ J.length) (cur : Option kL) (Hc : nwS (J.take i) w th cur) (Yc : ∀ t, cur = some t → yL h (ad (lNo t)) t) : rt_ X (d + 8) 166 5 [some (.ref 23), some (.ref na), some (vO ad th), some (vO ad cur), some (.int (nI i)), x5] [] h (fun v h' => h' = h ∧ ∃ res, v = some (vO ad res) ∧ nwS J w th res ∧ ∀ t, res = some t → yL h (ad (lNo t)) t) := by
  obtain ⟨IF, c26, hJ, HI⟩ := id CI
  refine rt_k (k := 2) (pc' := 8) (L' := [some (.ref 23), some (.ref na), some (vO ad th), some (vO ad cur), some (.int (nI i)), x5]) (st' := [.ref 23, .int (nI i)]) (h' := h) (fun _ => by first | rfl | (cases x5 <;> rfl) | (cases th <;> rfl) | (cases cur <;> rfl) | (cases x5 <;> cases th <;> cases cur <;> rfl)) ?_
  refine rt_gf rfl c23 rfl rfl ?_
  refine rt_ige rfl (by omega) (by omega) (fun z0 => ?_) (fun z0 => ?_)
  ·
    have e : i = J.length := by omega
    subst e
    rw [List.take_length] at Hc
    refine rt_k (k := 1) (pc' := 86) (L' := [some (.ref 23), some (.ref na), some (vO ad th), some (vO ad cur), some (.int (nI J.length)), x5]) (st' := [vO ad cur]) (h' := h) (fun _ => by cases cur <;> rfl) ?_
    exact rt_r (v := some (vO ad cur)) (by cases cur <;> rfl) (by cases cur <;> rfl) ⟨rfl, cur, rfl, Hc, Yc⟩
  obtain ⟨s, hs⟩ := gt_ex z0
  obtain ⟨f1, Ys⟩ := HI i s hs
  obtain ⟨nm, ve, nd, nr, bk, br, ow, NF, RF, BF, QF, OF, ⟨zr, cr⟩, ⟨-, cnd⟩, ⟨-, cnr⟩, ⟨-, cbk⟩, ⟨-, cbr⟩, ⟨-, cow⟩, hln, Sn, Vn, DN, DB, WO⟩ := id (Ys)
  obtain ⟨nv, nx', ny', ncc, -, -⟩ := Sn.at
  have skip : nwS (J.take (i + 1)) w th cur → rt_ X (d + 8) 166 79 [some (.ref 23), some (.ref na), some (vO ad th), some (vO ad cur), some (.int (nI i)), some (.ref (ad (lNo s)))] [] h (fun v h' => h' = h ∧ ∃ res, v = some (vO ad res) ∧ nwS J w th res ∧ ∀ t, res = some t → yL h (ad (lNo t)) t) := fun q => by
    refine rt_inc (c := 1) rfl rfl ?_
    refine rt_k (k := 1) (pc' := 5) (L' := [some (.ref 23), some (.ref na), some (vO ad th), some (vO ad cur), some (.int (nI (i + 1))), some (.ref (ad (lNo s)))]) (st' := []) (h' := h) (fun _ => by first | rfl | (cases th <;> rfl) | (cases cur <;> rfl) | (cases th <;> cases cur <;> rfl)) ?_
    exact m_nw1 c23 CI S Yt _ (i + 1) z0 cur q Yc
  have take : nwS (J.take (i + 1)) w th (some s) → rt_ X (d + 8) 166 76 [some (.ref 23), some (.ref na), some (vO ad th), some (vO ad cur), some (.int (nI i)), some (.ref (ad (lNo s)))] [] h (fun v h' => h' = h ∧ ∃ res, v = some (vO ad res) ∧ nwS J w th res ∧ ∀ t, res = some t → yL h (ad (lNo t)) t) := fun q => by
    refine rt_k (k := 2) (pc' := 79) (L' := [some (.ref 23), some (.ref na), some (vO ad th), some (.ref (ad (lNo s))), some (.int (nI i)), some (.ref (ad (lNo s)))]) (st' := []) (h' := h) (fun _ => by first | rfl | (cases th <;> rfl) | (cases cur <;> rfl) | (cases th <;> cases cur <;> rfl)) ?_
    refine rt_inc (c := 1) rfl rfl ?_
    refine rt_k (k := 1) (pc' := 5) (L' := [some (.ref 23), some (.ref na), some (vO ad th), some (.ref (ad (lNo s))), some (.int (nI (i + 1))), some (.ref (ad (lNo s)))]) (st' := []) (h' := h) (fun _ => by first | rfl | (cases th <;> rfl) | (cases cur <;> rfl) | (cases th <;> cases cur <;> rfl)) ?_
    exact m_nw1 c23 CI S Yt _ (i + 1) z0 (some s) q (fun t e => by cases e; exact Ys)
  have cmp : lNm s = w → blw s th → rt_ X (d + 8) 166 57 [some (.ref 23), some (.ref na), some (vO ad th), some (vO ad cur), some (.int (nI i)), some (.ref (ad (lNo s)))] [] h (fun v h' => h' = h ∧ ∃ res, v = some (vO ad res) ∧ nwS J w th res ∧ ∀ t, res = some t → yL h (ad (lNo t)) t) := fun q1 q2 => by
    cases cur with
    | none =>
      have t0 := trivial
      refine rt_k (k := 2) (pc' := 76) (L' := [some (.ref 23), some (.ref na), some (vO ad th), some (.null), some (.int (nI i)), some (.ref (ad (lNo s)))]) (st' := []) (h' := h) (fun _ => by first | rfl | (cases th <;> rfl)) ?_
      exact take (nwS_nw hs Hc q1 q2 (fun r q => by cases q))
    | some c =>
      obtain ⟨nm2, ve2, nd2, nr2, bk2, br2, ow2, NF2, RF2, BF2, QF2, OF2, ⟨zr2, cr2⟩, ⟨-, cnd2⟩, ⟨-, cnr2⟩, ⟨-, cbk2⟩, ⟨-, cbr2⟩, ⟨-, cow2⟩, hln2, Sn2, Vn2, DN2, DB2, WO2⟩ := id (Yc c rfl)
      refine rt_k (k := 3) (pc' := 63) (L' := [some (.ref 23), some (.ref na), some (vO ad th), some (.ref (ad (lNo c))), some (.int (nI i)), some (.ref (ad (lNo s)))]) (st' := [.ref (ad (lNo s))]) (h' := h) (fun _ => by first | rfl | (cases th <;> rfl)) ?_
      refine rt_gf rfl cr rfl rfl ?_
      refine rt_k (k := 1) (pc' := 67) (L' := [some (.ref 23), some (.ref na), some (vO ad th), some (.ref (ad (lNo c))), some (.int (nI i)), some (.ref (ad (lNo s)))]) (st' := [.ref (ad (lNo c)), .ref ve]) (h' := h) (fun _ => by first | rfl | (cases th <;> rfl)) ?_
      refine rt_gf rfl cr2 rfl rfl ?_
      refine rt_cE rfl rfl (m_order (d := d) Vn Vn2) ?_
      refine rt_qle rfl (fun z2 => ?_) (fun z2 => ?_)
      ·
        exact skip (nwS_sk hs Hc (fun _ _ => ⟨c, rfl, fun y => i32_le z2 y⟩))
      exact take (nwS_nw hs Hc q1 q2 (fun r q => by cases q; exact i32_nle z2))
  refine rt_k (k := 1) (pc' := 15) (L' := [some (.ref 23), some (.ref na), some (vO ad th), some (vO ad cur), some (.int (nI i)), x5]) (st' := [.ref 23]) (h' := h) (fun _ => by first | rfl | (cases x5 <;> rfl) | (cases th <;> rfl) | (cases cur <;> rfl) | (cases x5 <;> cases th <;> cases cur <;> rfl)) ?_
  refine rt_gf rfl c23 rfl rfl ?_
  refine rt_k (k := 1) (pc' := 20) (L' := [some (.ref 23), some (.ref na), some (vO ad th), some (vO ad cur), some (.int (nI i)), x5]) (st' := [.int (nI i), .ref 26]) (h' := h) (fun _ => by first | rfl | (cases x5 <;> rfl) | (cases th <;> rfl) | (cases cur <;> rfl) | (cases x5 <;> cases th <;> cases cur <;> rfl)) ?_
  refine rt_aalN rfl c26 rfl (by omega) (by decide) f1 ?_
  refine rt_k (k := 2) (pc' := 25) (L' := [some (.ref 23), some (.ref na), some (vO ad th), some (vO ad cur), some (.int (nI i)), some (.ref (ad (lNo s)))]) (st' := [.ref (ad (lNo s))]) (h' := h) (fun _ => by first | rfl | (cases x5 <;> rfl) | (cases th <;> rfl) | (cases cur <;> rfl) | (cases x5 <;> cases th <;> cases cur <;> rfl)) ?_
  refine rt_gf rfl cr rfl rfl ?_
  refine rt_k (k := 1) (pc' := 29) (L' := [some (.ref 23), some (.ref na), some (vO ad th), some (vO ad cur), some (.int (nI i)), some (.ref (ad (lNo s)))]) (st' := [.ref na, .ref nm]) (h' := h) (fun _ => by first | rfl | (cases x5 <;> rfl) | (cases th <;> rfl) | (cases cur <;> rfl) | (cases x5 <;> cases th <;> cases cur <;> rfl)) ?_
  refine rt_cvE rfl (by decide) ncc rfl rfl rfl rfl (st_eq Sn S) ?_
  refine rt_pe rfl (fun z1 => ?_) (fun z1 => ?_)
  ·
    exact skip (nwS_sk hs Hc (fun q => absurd q z1))
  cases th with
  | none =>
    have t0 := trivial
    refine rt_k (k := 2) (pc' := 57) (L' := [some (.ref 23), some (.ref na), some (.null), some (vO ad cur), some (.int (nI i)), some (.ref (ad (lNo s)))]) (st' := []) (h' := h) (fun _ => by first | rfl | (cases cur <;> rfl)) ?_
    exact cmp z1 trivial
  | some t =>
    obtain ⟨nm3, ve3, nd3, nr3, bk3, br3, ow3, NF3, RF3, BF3, QF3, OF3, ⟨zr3, cr3⟩, ⟨-, cnd3⟩, ⟨-, cnr3⟩, ⟨-, cbk3⟩, ⟨-, cbr3⟩, ⟨-, cow3⟩, hln3, Sn3, Vn3, DN3, DB3, WO3⟩ := id (Yt t rfl)
    refine rt_k (k := 3) (pc' := 41) (L' := [some (.ref 23), some (.ref na), some (.ref (ad (lNo t))), some (vO ad cur), some (.int (nI i)), some (.ref (ad (lNo s)))]) (st' := [.ref (ad (lNo s))]) (h' := h) (fun _ => by first | rfl | (cases cur <;> rfl)) ?_
    refine rt_gf rfl cr rfl rfl ?_
    refine rt_k (k := 1) (pc' := 45) (L' := [some (.ref 23), some (.ref na), some (.ref (ad (lNo t))), some (vO ad cur), some (.int (nI i)), some (.ref (ad (lNo s)))]) (st' := [.ref (ad (lNo t)), .ref ve]) (h' := h) (fun _ => by first | rfl | (cases cur <;> rfl)) ?_
    refine rt_gf rfl cr3 rfl rfl ?_
    refine rt_cE rfl rfl (m_order (d := d) Vn Vn3) ?_
    refine rt_qlt rfl (fun z2 => ?_) (fun z2 => ?_)
    ·
      exact cmp z1 z2
    refine rt_k (k := 1) (pc' := 79) (L' := [some (.ref 23), some (.ref na), some (.ref (ad (lNo t))), some (vO ad cur), some (.int (nI i)), some (.ref (ad (lNo s)))]) (st' := []) (h' := h) (fun _ => by first | rfl | (cases cur <;> rfl)) ?_
    exact skip (nwS_sk hs Hc (fun _ q => absurd q z2))
termination_by J.length - i
theorem m_newest {na : Nat} {w : kW} {th : Option kL} (c23 : h[23]? = some (mo x y z (mq (nI J.length) md (nI D.length) kc gn sp nc bc kn))) (CI : mI h ad J) (S : sS h na w) (Yt : ∀ t, th = some t → yL h (ad (lNo t)) t) : rt_ X (d + 8) 166 0 [some (.ref 23), some (.ref na), some (vO ad th), none, none, none] [] h (fun v h' => h' = h ∧ ∃ res, v = some (vO ad res) ∧ nwS J w th res ∧ ∀ t, res = some t → yL h (ad (lNo t)) t) := by
  refine rt_k (k := 4) (pc' := 5) (L' := [some (.ref 23), some (.ref na), some (vO ad th), some (.null), some (.int (nI 0)), none]) (st' := []) (h' := h) (fun _ => by first | rfl | (cases th <;> rfl)) ?_
  exact m_nw1 c23 CI S Yt none 0 (Nat.zero_le _) none (fun s q => by cases q) (fun t e => by cases e)
end NC

