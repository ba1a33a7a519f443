/-! THE REFERENCE, 32: clash, has, needs, walk. -/
def yS (h : List va_E) (ad : Nat → Nat) (sa : Nat) (F : Nat → Option Nat) (S : List kL) : Prop := h[sa]? = some (.inl (10, 8, .inr (.inr (.inr (.inr F))))) ∧ S.length ≤ 8 ∧ yLs h ad F S
theorem ad_inj {h : List va_E} {ad : Nat → Nat} {r s : kL} (Y : yL h (ad (lNo r)) r) (Z : yL h (ad (lNo s)) s) (hr : lNo r < 2147483648) (hs : lNo s < 2147483648) : ad (lNo r) = ad (lNo s) ↔ lNo r = lNo s := by
  refine ⟨fun e => ?_, fun e => by rw [e]⟩
  obtain ⟨n1, f1, ⟨_, c1⟩, -⟩ := Y.nm
  obtain ⟨n2, f2, ⟨_, c2⟩, -⟩ := Z.nm
  rw [e, c2] at c1
  injection c1 with c1
  injection c1 with c1
  injection c1 with _ c1
  injection c1 with c1 _
  injection c1 with c1
  exact ((nI_eqI hs hr).mp c1).symm
section NH
variable {X : Nat × (Nat → Int32)} {d : Nat} {h : List va_E} {Q : Option Value → List va_E → Prop} {ad : Nat → Nat} {J : List kL} {D : kD} {x y z md kc gn sp nc bc kn : Int32}
variable {sa : Nat} {F : Nat → Option Nat} {S : List kL}
theorem m_cl4 {a b : Nat} {r s : kL} {n : Nat} {u : kW} (CS : yS h ad sa F S) (hba : b < a) (ha : S[a]? = some r) (hb : S[b]? = some s) (hu : (lOw r)[n]? = some u) (k1 : clR S → Q (some (.int (nI 1))) h) (k : ∀ y5, ¬ u ∈ lOw s → rt_ X (d + 2) 170 74 [some (.ref sa), some (.int (nI S.length)), some (.int (nI a)), some (.int (nI b)), some (.int (nI n)), y5] [] h Q) (i : Nat) (hi : i ≤ (lOw s).length) (H : ∀ (j : Nat) w, j < i → (lOw s)[j]? = some w → ¬ u = w) : rt_ X (d + 2) 170 31 [some (.ref sa), some (.int (nI S.length)), some (.int (nI a)), some (.int (nI b)), some (.int (nI n)), some (.int (nI i))] [] h Q := by
  obtain ⟨ca, h8, HS⟩ := id CS
  obtain ⟨fa, Yr⟩ := HS a r ha
  obtain ⟨fb, Ys⟩ := HS b s hb
  have la := gt_lt ha
  have ln := gt_lt hu
  obtain ⟨nm1, ve1, nd1, nr1, bk1, br1, ow1, NF1, RF1, BF1, QF1, OF1, ⟨zr1, cr1⟩, ⟨-, cnd1⟩, ⟨-, cnr1⟩, ⟨-, cbk1⟩, ⟨-, cbr1⟩, ⟨-, cow1⟩, hln1, Sn1, Vn1, DN1, DB1, WO1⟩ := id (Yr)
  obtain ⟨nm2, ve2, nd2, nr2, bk2, br2, ow2, NF2, RF2, BF2, QF2, OF2, ⟨zr2, cr2⟩, ⟨-, cnd2⟩, ⟨-, cnr2⟩, ⟨-, cbk2⟩, ⟨-, cbr2⟩, ⟨-, cow2⟩, hln2, Sn2, Vn2, DN2, DB2, WO2⟩ := id (Ys)
  obtain ⟨ua, g1, Su⟩ := WO1 n u hu
  obtain ⟨uv, ux, uy, ucc, -, -⟩ := Su.at
  refine rt_k (k := 3) (pc' := 35) (L' := [some (.ref sa), some (.int (nI S.length)), some (.int (nI a)), some (.int (nI b)), some (.int (nI n)), some (.int (nI i))]) (st' := [.int (nI b), .ref sa, .int (nI i)]) (h' := h) (fun _ => rfl) ?_
  refine rt_aalN rfl ca rfl (by omega) (by decide) fb ?_
  refine rt_gf rfl cr2 rfl rfl ?_
  refine rt_ige rfl (by omega) (by omega) (fun z0 => ?_) (fun z0 => ?_)
  ·
    exact k _ (fun q => by obtain ⟨j, hj⟩ := gt_mem q; exact H j u (by have := gt_lt hj; omega) hj rfl)
  obtain ⟨w, hw⟩ := gt_ex z0
  obtain ⟨wa, g2, Sw⟩ := WO2 i w hw
  refine rt_k (k := 2) (pc' := 44) (L' := [some (.ref sa), some (.int (nI S.length)), some (.int (nI a)), some (.int (nI b)), some (.int (nI n)), some (.int (nI i))]) (st' := [.int (nI a), .ref sa]) (h' := h) (fun _ => rfl) ?_
  refine rt_aalN rfl ca rfl (by omega) (by decide) fa ?_
  refine rt_gf rfl cr1 rfl rfl ?_
  refine rt_k (k := 1) (pc' := 50) (L' := [some (.ref sa), some (.int (nI S.length)), some (.int (nI a)), some (.int (nI b)), some (.int (nI n)), some (.int (nI i))]) (st' := [.int (nI n), .ref ow1]) (h' := h) (fun _ => rfl) ?_
  refine rt_aalN rfl cow1 rfl (by omega) (by decide) g1 ?_
  refine rt_k (k := 2) (pc' := 53) (L' := [some (.ref sa), some (.int (nI S.length)), some (.int (nI a)), some (.int (nI b)), some (.int (nI n)), some (.int (nI i))]) (st' := [.int (nI b), .ref sa, .ref ua]) (h' := h) (fun _ => rfl) ?_
  refine rt_aalN rfl ca rfl (by omega) (by decide) fb ?_
  refine rt_gf rfl cr2 rfl rfl ?_
  refine rt_k (k := 1) (pc' := 59) (L' := [some (.ref sa), some (.int (nI S.length)), some (.int (nI a)), some (.int (nI b)), some (.int (nI n)), some (.int (nI i))]) (st' := [.int (nI i), .ref ow2, .ref ua]) (h' := h) (fun _ => rfl) ?_
  refine rt_aalN rfl cow2 rfl (by omega) (by decide) g2 ?_
  refine rt_cvE rfl (by decide) ucc rfl rfl rfl rfl (st_eq Su Sw) ?_
  refine rt_pe rfl (fun z1 => ?_) (fun z1 => ?_)
  rotate_left
  ·
    refine rt_k (k := 1) (pc' := 67) (L' := [some (.ref sa), some (.int (nI S.length)), some (.int (nI a)), some (.int (nI b)), some (.int (nI n)), some (.int (nI i))]) (st' := [.int (nI 1)]) (h' := h) (fun _ => rfl) ?_
    exact rt_r (v := some (.int (nI 1))) rfl rfl (k1 ⟨a, b, r, s, hba, ha, hb, u, List.mem_of_getElem? hu, by rw [z1]; exact List.mem_of_getElem? hw⟩)
  refine rt_inc (c := 1) rfl rfl ?_
  refine rt_k (k := 1) (pc' := 31) (L' := [some (.ref sa), some (.int (nI S.length)), some (.int (nI a)), some (.int (nI b)), some (.int (nI n)), some (.int (nI (i + 1)))]) (st' := []) (h' := h) (fun _ => rfl) ?_
  exact m_cl4 CS hba ha hb hu k1 k (i + 1) z0 (fun j w' hj hw' => by
    by_cases q : j = i
    · subst q; rw [hw] at hw'; cases hw'; exact z1
    · exact H j w' (by omega) hw')
termination_by (lOw s).length - i
theorem m_cl3 {a b : Nat} {r s : kL} (CS : yS h ad sa F S) (hba : b < a) (ha : S[a]? = some r) (hb : S[b]? = some s) (k1 : clR S → Q (some (.int (nI 1))) h) (k : ∀ y4 y5, (∀ u ∈ lOw r, ¬ u ∈ lOw s) → rt_ X (d + 2) 170 80 [some (.ref sa), some (.int (nI S.length)), some (.int (nI a)), some (.int (nI b)), y4, y5] [] h Q) (x5 : Option Value) (i : Nat) (hi : i ≤ (lOw r).length) (H : ∀ (j : Nat) u, j < i → (lOw r)[j]? = some u → ¬ u ∈ lOw s) : rt_ X (d + 2) 170 17 [some (.ref sa), some (.int (nI S.length)), some (.int (nI a)), some (.int (nI b)), some (.int (nI i)), x5] [] h Q := by
  obtain ⟨ca, h8, HS⟩ := id CS
  obtain ⟨fa, Yr⟩ := HS a r ha
  have la := gt_lt ha
  obtain ⟨nm1, ve1, nd1, nr1, bk1, br1, ow1, NF1, RF1, BF1, QF1, OF1, ⟨zr1, cr1⟩, ⟨-, cnd1⟩, ⟨-, cnr1⟩, ⟨-, cbk1⟩, ⟨-, cbr1⟩, ⟨-, cow1⟩, hln1, Sn1, Vn1, DN1, DB1, WO1⟩ := id (Yr)
  refine rt_k (k := 3) (pc' := 21) (L' := [some (.ref sa), some (.int (nI S.length)), some (.int (nI a)), some (.int (nI b)), some (.int (nI i)), x5]) (st' := [.int (nI a), .ref sa, .int (nI i)]) (h' := h) (fun _ => by first | rfl | (cases x5 <;> rfl)) ?_
  refine rt_aalN rfl ca rfl (by omega) (by decide) fa ?_
  refine rt_gf rfl cr1 rfl rfl ?_
  refine rt_ige rfl (by omega) (by omega) (fun z0 => ?_) (fun z0 => ?_)
  ·
    exact k _ _ (fun u hu => by obtain ⟨j, hj⟩ := gt_mem hu; exact H j u (by have := gt_lt hj; omega) hj)
  obtain ⟨u, hu⟩ := gt_ex z0
  refine rt_k (k := 2) (pc' := 31) (L' := [some (.ref sa), some (.int (nI S.length)), some (.int (nI a)), some (.int (nI b)), some (.int (nI i)), some (.int (nI 0))]) (st' := []) (h' := h) (fun _ => by first | rfl | (cases x5 <;> rfl)) ?_
  refine m_cl4 CS hba ha hb hu k1 (fun y5 hn => ?_) 0 (Nat.zero_le _) (fun j w hj => absurd hj (Nat.not_lt_zero _))
  refine rt_inc (c := 1) rfl rfl ?_
  refine rt_k (k := 1) (pc' := 17) (L' := [some (.ref sa), some (.int (nI S.length)), some (.int (nI a)), some (.int (nI b)), some (.int (nI (i + 1))), y5]) (st' := []) (h' := h) (fun _ => by first | rfl | (cases y5 <;> rfl)) ?_
  exact m_cl3 CS hba ha hb k1 k _ (i + 1) z0 (fun j u' hj hu' => by
    by_cases q : j = i
    · subst q; rw [hu] at hu'; cases hu'; exact hn
    · exact H j u' (by omega) hu')
termination_by (lOw r).length - i
theorem m_cl2 {a : Nat} {r : kL} (CS : yS h ad sa F S) (ha : S[a]? = some r) (k1 : clR S → Q (some (.int (nI 1))) h) (k : ∀ y3 y4 y5, (∀ (j : Nat) s, j < a → S[j]? = some s → ∀ u ∈ lOw r, ¬ u ∈ lOw s) → rt_ X (d + 2) 170 86 [some (.ref sa), some (.int (nI S.length)), some (.int (nI a)), y3, y4, y5] [] h Q) (x4 x5 : Option Value) (i : Nat) (hi : i ≤ a) (H : ∀ (j : Nat) s, j < i → S[j]? = some s → ∀ u ∈ lOw r, ¬ u ∈ lOw s) : rt_ X (d + 2) 170 9 [some (.ref sa), some (.int (nI S.length)), some (.int (nI a)), some (.int (nI i)), x4, x5] [] h Q := by
  have la := gt_lt ha
  have h8 := CS.2.1
  refine rt_k (k := 2) (pc' := 11) (L' := [some (.ref sa), some (.int (nI S.length)), some (.int (nI a)), some (.int (nI i)), x4, x5]) (st' := [.int (nI a), .int (nI i)]) (h' := h) (fun _ => by first | rfl | (cases x4 <;> rfl) | (cases x5 <;> rfl) | (cases x4 <;> cases x5 <;> rfl)) ?_
  refine rt_ige rfl (by omega) (by omega) (fun z0 => ?_) (fun z0 => ?_)
  ·
    exact k _ _ _ (fun j s hj => H j s (by omega))
  obtain ⟨s, hs⟩ := gt_ex (show i < S.length by omega)
  refine rt_k (k := 2) (pc' := 17) (L' := [some (.ref sa), some (.int (nI S.length)), some (.int (nI a)), some (.int (nI i)), some (.int (nI 0)), x5]) (st' := []) (h' := h) (fun _ => by first | rfl | (cases x4 <;> rfl) | (cases x5 <;> rfl) | (cases x4 <;> cases x5 <;> rfl)) ?_
  refine m_cl3 CS z0 ha hs k1 (fun y4 y5 hn => ?_) _ 0 (Nat.zero_le _) (fun j w hj => absurd hj (Nat.not_lt_zero _))
  refine rt_inc (c := 1) rfl rfl ?_
  refine rt_k (k := 1) (pc' := 9) (L' := [some (.ref sa), some (.int (nI S.length)), some (.int (nI a)), some (.int (nI (i + 1))), y4, y5]) (st' := []) (h' := h) (fun _ => by first | rfl | (cases y4 <;> rfl) | (cases y5 <;> rfl) | (cases y4 <;> cases y5 <;> rfl)) ?_
  exact m_cl2 CS ha k1 k _ _ (i + 1) z0 (fun j s' hj hs' => by
    by_cases q : j = i
    · subst q; rw [hs] at hs'; cases hs'; exact hn
    · exact H j s' (by omega) hs')
termination_by a - i
theorem m_cl1 (CS : yS h ad sa F S) (x3 x4 x5 : Option Value) (i : Nat) (hi : i ≤ S.length) (H : ∀ (a j : Nat) r s, a < i → j < a → S[a]? = some r → S[j]? = some s → ∀ u ∈ lOw r, ¬ u ∈ lOw s) : rt_ X (d + 2) 170 2 [some (.ref sa), some (.int (nI S.length)), some (.int (nI i)), x3, x4, x5] [] h (fun v h' => v = some (.int (tB (clR S))) ∧ h' = h) := by
  have h8 := CS.2.1
  refine rt_k (k := 2) (pc' := 4) (L' := [some (.ref sa), some (.int (nI S.length)), some (.int (nI i)), x3, x4, x5]) (st' := [.int (nI S.length), .int (nI i)]) (h' := h) (fun _ => by first | rfl | (cases x3 <;> rfl) | (cases x4 <;> rfl) | (cases x5 <;> rfl) | (cases x3 <;> cases x4 <;> cases x5 <;> rfl)) ?_
  refine rt_ige rfl (by omega) (by omega) (fun z0 => ?_) (fun z0 => ?_)
  ·
    refine rt_k (k := 1) (pc' := 93) (L' := [some (.ref sa), some (.int (nI S.length)), some (.int (nI i)), x3, x4, x5]) (st' := [.int (nI 0)]) (h' := h) (fun _ => by first | rfl | (cases x3 <;> rfl) | (cases x4 <;> rfl) | (cases x5 <;> rfl) | (cases x3 <;> cases x4 <;> cases x5 <;> rfl)) ?_
    exact rt_r (v := some (.int (nI 0))) rfl rfl (⟨ret0 (fun ⟨a, j, r, s, q1, q2, q3, u, q4, q5⟩ => H a j r s (by have := gt_lt q2; omega) q1 q2 q3 u q4 q5), rfl⟩)
  obtain ⟨r, hr⟩ := gt_ex z0
  refine rt_k (k := 2) (pc' := 9) (L' := [some (.ref sa), some (.int (nI S.length)), some (.int (nI i)), some (.int (nI 0)), x4, x5]) (st' := []) (h' := h) (fun _ => by first | rfl | (cases x3 <;> rfl) | (cases x4 <;> rfl) | (cases x5 <;> rfl) | (cases x3 <;> cases x4 <;> cases x5 <;> rfl)) ?_
  refine m_cl2 CS hr (fun q => ⟨ret1 q, rfl⟩) (fun y3 y4 y5 hn => ?_) _ _ 0 (Nat.zero_le _) (fun j w hj => absurd hj (Nat.not_lt_zero _))
  refine rt_inc (c := 1) rfl rfl ?_
  refine rt_k (k := 1) (pc' := 2) (L' := [some (.ref sa), some (.int (nI S.length)), some (.int (nI (i + 1))), y3, y4, y5]) (st' := []) (h' := h) (fun _ => by first | rfl | (cases y3 <;> rfl) | (cases y4 <;> rfl) | (cases y5 <;> rfl) | (cases y3 <;> cases y4 <;> cases y5 <;> rfl)) ?_
  exact m_cl1 CS _ _ _ (i + 1) z0 (fun a j r' s q1 q2 q3 q4 => by
    by_cases q : a = i
    · subst q; rw [hr] at q3; cases q3; exact hn j s q2 q4
    · exact H a j r' s (by omega) q2 q3 q4)
termination_by S.length - i
theorem m_clash (CS : yS h ad sa F S) : rt_ X (d + 2) 170 0 [some (.ref sa), some (.int (nI S.length)), none, none, none, none] [] h (fun v h' => v = some (.int (tB (clR S))) ∧ h' = h) := by
  refine rt_k (k := 2) (pc' := 2) (L' := [some (.ref sa), some (.int (nI S.length)), some (.int (nI 0)), none, none, none]) (st' := []) (h' := h) (fun _ => rfl) ?_
  exact m_cl1 CS none none none 0 (Nat.zero_le _) (fun a j r s q => absurd q (Nat.not_lt_zero _))
/-- is it in the index -/
theorem m_ii1 {r : kL} (c23 : h[23]? = some (mo x y z (mq (nI J.length) md (nI D.length) kc gn sp nc bc kn))) (CI : mI h ad J) (Y : yL h (ad (lNo r)) r) (hb : (∀ s ∈ J, lNo s < 2147483648) ∧ lNo r < 2147483648) (i : Nat) (hi : i ≤ J.length) (H : ∀ (j : Nat) s, j < i → J[j]? = some s → ¬ lNo s = lNo r) : rt_ X d 169 2 [some (.ref 23), some (.ref (ad (lNo r))), some (.int (nI i))] [] h (fun v h' => v = some (.int (tB (∃ s ∈ J, lNo s = lNo r))) ∧ h' = h) := by
  obtain ⟨IF, c26, hJ, HI⟩ := id CI
  refine rt_k (k := 2) (pc' := 4) (L' := [some (.ref 23), some (.ref (ad (lNo r))), some (.int (nI i))]) (st' := [.ref 23, .int (nI i)]) (h' := h) (fun _ => rfl) ?_
  refine rt_gf rfl c23 rfl rfl ?_
  refine rt_ige rfl (by omega) (by omega) (fun z0 => ?_) (fun z0 => ?_)
  ·
    refine rt_k (k := 1) (pc' := 29) (L' := [some (.ref 23), some (.ref (ad (lNo r))), some (.int (nI i))]) (st' := [.int (nI 0)]) (h' := h) (fun _ => rfl) ?_
    exact rt_r (v := some (.int (nI 0))) rfl rfl (⟨ret0 (fun ⟨s, q1, q2⟩ => by obtain ⟨j, hj⟩ := gt_mem q1; exact H j s (by have := gt_lt hj; omega) hj q2), rfl⟩)
  obtain ⟨s, hs⟩ := gt_ex z0
  obtain ⟨f1, Ys⟩ := HI i s hs
  have ai := ad_inj Ys Y (hb.1 s (List.mem_of_getElem? hs)) hb.2
  refine rt_k (k := 1) (pc' := 11) (L' := [some (.ref 23), some (.ref (ad (lNo r))), some (.int (nI i))]) (st' := [.ref 23]) (h' := h) (fun _ => rfl) ?_
  refine rt_gf rfl c23 rfl rfl ?_
  refine rt_k (k := 1) (pc' := 15) (L' := [some (.ref 23), some (.ref (ad (lNo r))), some (.int (nI i))]) (st' := [.int (nI i), .ref 26]) (h' := h) (fun _ => rfl) ?_
  refine rt_aalN rfl c26 rfl (by omega) (by decide) f1 ?_
  refine rt_k (k := 1) (pc' := 17) (L' := [some (.ref 23), some (.ref (ad (lNo r))), some (.int (nI i))]) (st' := [.ref (ad (lNo r)), .ref (ad (lNo s))]) (h' := h) (fun _ => rfl) ?_
  refine rt_ane rfl (fun z1 => ?_) (fun z1 => ?_)
  rotate_left
  ·
    refine rt_k (k := 1) (pc' := 21) (L' := [some (.ref 23), some (.ref (ad (lNo r))), some (.int (nI i))]) (st' := [.int (nI 1)]) (h' := h) (fun _ => rfl) ?_
    exact rt_r (v := some (.int (nI 1))) rfl rfl (⟨ret1 ⟨s, List.mem_of_getElem? hs, ai.mp z1⟩, rfl⟩)
  refine rt_inc (c := 1) rfl rfl ?_
  refine rt_k (k := 1) (pc' := 2) (L' := [some (.ref 23), some (.ref (ad (lNo r))), some (.int (nI (i + 1)))]) (st' := []) (h' := h) (fun _ => rfl) ?_
  exact m_ii1 c23 CI Y hb (i + 1) z0 (fun j s' hj hs' => by
    by_cases q : j = i
    · subst q; rw [hs] at hs'; cases hs'; exact fun e => z1 (ai.mpr e)
    · exact H j s' (by omega) hs')
termination_by J.length - i
theorem m_inIndex {r : kL} (c23 : h[23]? = some (mo x y z (mq (nI J.length) md (nI D.length) kc gn sp nc bc kn))) (CI : mI h ad J) (Y : yL h (ad (lNo r)) r) (hb : (∀ s ∈ J, lNo s < 2147483648) ∧ lNo r < 2147483648) : rt_ X d 169 0 [some (.ref 23), some (.ref (ad (lNo r))), none] [] h (fun v h' => v = some (.int (tB (∃ s ∈ J, lNo s = lNo r))) ∧ h' = h) := by
  refine rt_k (k := 2) (pc' := 2) (L' := [some (.ref 23), some (.ref (ad (lNo r))), some (.int (nI 0))]) (st' := []) (h' := h) (fun _ => rfl) ?_
  exact m_ii1 c23 CI Y hb 0 (Nat.zero_le _) (fun j s hj => absurd hj (Nat.not_lt_zero _))
/-- does one need the other -/
theorem m_nd1 {r s : kL} {a b : Nat} (Y : yL h a r) (Z : yL h b s) (i : Nat) (hi : i ≤ (lNe r).length) (H : ∀ (j : Nat) e, j < i → (lNe r)[j]? = some e → ¬ e.1 = lNm s) : rt_ X (d + 2) 172 2 [some (.ref a), some (.ref b), some (.int (nI i))] [] h (fun v h' => v = some (.int (tB (∃ e ∈ lNe r, e.1 = lNm s))) ∧ h' = h) := by
  obtain ⟨nm1, ve1, nd1, nr1, bk1, br1, ow1, NF1, RF1, BF1, QF1, OF1, ⟨zr1, cr1⟩, ⟨-, cnd1⟩, ⟨-, cnr1⟩, ⟨-, cbk1⟩, ⟨-, cbr1⟩, ⟨-, cow1⟩, hln1, Sn1, Vn1, DN1, DB1, WO1⟩ := id (Y)
  obtain ⟨nm2, ve2, nd2, nr2, bk2, br2, ow2, NF2, RF2, BF2, QF2, OF2, ⟨zr2, cr2⟩, ⟨-, cnd2⟩, ⟨-, cnr2⟩, ⟨-, cbk2⟩, ⟨-, cbr2⟩, ⟨-, cow2⟩, hln2, Sn2, Vn2, DN2, DB2, WO2⟩ := id (Z)
  refine rt_k (k := 2) (pc' := 4) (L' := [some (.ref a), some (.ref b), some (.int (nI i))]) (st' := [.ref a, .int (nI i)]) (h' := h) (fun _ => rfl) ?_
  refine rt_gf rfl cr1 rfl rfl ?_
  refine rt_ige rfl (by omega) (by omega) (fun z0 => ?_) (fun z0 => ?_)
  ·
    refine rt_k (k := 1) (pc' := 35) (L' := [some (.ref a), some (.ref b), some (.int (nI i))]) (st' := [.int (nI 0)]) (h' := h) (fun _ => rfl) ?_
    exact rt_r (v := some (.int (nI 0))) rfl rfl (⟨ret0 (fun ⟨e, q1, q2⟩ => by obtain ⟨j, hj⟩ := gt_mem q1; exact H j e (by have := gt_lt hj; omega) hj q2), rfl⟩)
  obtain ⟨e, he⟩ := gt_ex z0
  obtain ⟨⟨ea, f1, Se⟩, -⟩ := DN1 i e he
  obtain ⟨ev, ex', ey', ecc, -, -⟩ := Se.at
  refine rt_k (k := 1) (pc' := 11) (L' := [some (.ref a), some (.ref b), some (.int (nI i))]) (st' := [.ref a]) (h' := h) (fun _ => rfl) ?_
  refine rt_gf rfl cr1 rfl rfl ?_
  refine rt_k (k := 1) (pc' := 15) (L' := [some (.ref a), some (.ref b), some (.int (nI i))]) (st' := [.int (nI i), .ref nd1]) (h' := h) (fun _ => rfl) ?_
  refine rt_aalN rfl cnd1 rfl (by omega) (by decide) f1 ?_
  refine rt_k (k := 1) (pc' := 17) (L' := [some (.ref a), some (.ref b), some (.int (nI i))]) (st' := [.ref b, .ref ea]) (h' := h) (fun _ => rfl) ?_
  refine rt_gf rfl cr2 rfl rfl ?_
  refine rt_cvE rfl (by decide) ecc rfl rfl rfl rfl (st_eq Se Sn2) ?_
  refine rt_pe rfl (fun z1 => ?_) (fun z1 => ?_)
  rotate_left
  ·
    refine rt_k (k := 1) (pc' := 27) (L' := [some (.ref a), some (.ref b), some (.int (nI i))]) (st' := [.int (nI 1)]) (h' := h) (fun _ => rfl) ?_
    exact rt_r (v := some (.int (nI 1))) rfl rfl (⟨ret1 ⟨e, List.mem_of_getElem? he, z1⟩, rfl⟩)
  refine rt_inc (c := 1) rfl rfl ?_
  refine rt_k (k := 1) (pc' := 2) (L' := [some (.ref a), some (.ref b), some (.int (nI (i + 1)))]) (st' := []) (h' := h) (fun _ => rfl) ?_
  exact m_nd1 Y Z (i + 1) z0 (fun j e' hj he' => by
    by_cases q : j = i
    · subst q; rw [he] at he'; cases he'; exact z1
    · exact H j e' (by omega) he')
termination_by (lNe r).length - i
theorem m_needs {r s : kL} {a b : Nat} (Y : yL h a r) (Z : yL h b s) : rt_ X (d + 2) 172 0 [some (.ref a), some (.ref b), none] [] h (fun v h' => v = some (.int (tB (∃ e ∈ lNe r, e.1 = lNm s))) ∧ h' = h) := by
  refine rt_k (k := 2) (pc' := 2) (L' := [some (.ref a), some (.ref b), some (.int (nI 0))]) (st' := []) (h' := h) (fun _ => rfl) ?_
  exact m_nd1 Y Z 0 (Nat.zero_le _) (fun j s hj => absurd hj (Nat.not_lt_zero _))
/-- does a generation have it -/
theorem m_hs1 {r : kL} {ga : Nat} {g : kG} (YG : yG h ad ga g) (Y : yL h (ad (lNo r)) r) (hb : (∀ e ∈ g, lNo e.1 < 2147483648) ∧ lNo r < 2147483648) (i : Nat) (hi : i ≤ g.length) (H : ∀ (j : Nat) e, j < i → g[j]? = some e → ¬ lNo e.1 = lNo r) : rt_ X d 174 2 [some (.ref ga), some (.ref (ad (lNo r))), some (.int (nI i))] [] h (fun v h' => v = some (.int (tB (inG g (nI (lNo r))))) ∧ h' = h) := by
  obtain ⟨rl, ci, RF, CF, ⟨-, cg⟩, ⟨-, cl⟩, ⟨-, cc⟩, g8, HG⟩ := id YG
  refine rt_k (k := 2) (pc' := 4) (L' := [some (.ref ga), some (.ref (ad (lNo r))), some (.int (nI i))]) (st' := [.ref ga, .int (nI i)]) (h' := h) (fun _ => rfl) ?_
  refine rt_gf rfl cg rfl rfl ?_
  refine rt_ige rfl (by omega) (by omega) (fun z0 => ?_) (fun z0 => ?_)
  ·
    refine rt_k (k := 1) (pc' := 29) (L' := [some (.ref ga), some (.ref (ad (lNo r))), some (.int (nI i))]) (st' := [.int (nI 0)]) (h' := h) (fun _ => rfl) ?_
    exact rt_r (v := some (.int (nI 0))) rfl rfl (⟨ret0 (fun ⟨e, q1, q2⟩ => by obtain ⟨j, hj⟩ := gt_mem q1; exact H j e (by have := gt_lt hj; omega) hj ((nI_eqI (hb.1 e q1) hb.2).mp q2)), rfl⟩)
  obtain ⟨e, he⟩ := gt_ex z0
  obtain ⟨f1, Ye, -⟩ := HG i e he
  have hm := List.mem_of_getElem? he
  have ai := ad_inj Ye Y (hb.1 e hm) hb.2
  refine rt_k (k := 1) (pc' := 11) (L' := [some (.ref ga), some (.ref (ad (lNo r))), some (.int (nI i))]) (st' := [.ref ga]) (h' := h) (fun _ => rfl) ?_
  refine rt_gf rfl cg rfl rfl ?_
  refine rt_k (k := 1) (pc' := 15) (L' := [some (.ref ga), some (.ref (ad (lNo r))), some (.int (nI i))]) (st' := [.int (nI i), .ref rl]) (h' := h) (fun _ => rfl) ?_
  refine rt_aalN rfl cl rfl (by omega) (by decide) f1 ?_
  refine rt_k (k := 1) (pc' := 17) (L' := [some (.ref ga), some (.ref (ad (lNo r))), some (.int (nI i))]) (st' := [.ref (ad (lNo r)), .ref (ad (lNo e.1))]) (h' := h) (fun _ => rfl) ?_
  refine rt_ane rfl (fun z1 => ?_) (fun z1 => ?_)
  rotate_left
  ·
    refine rt_k (k := 1) (pc' := 21) (L' := [some (.ref ga), some (.ref (ad (lNo r))), some (.int (nI i))]) (st' := [.int (nI 1)]) (h' := h) (fun _ => rfl) ?_
    exact rt_r (v := some (.int (nI 1))) rfl rfl (⟨ret1 ⟨e, hm, by rw [ai.mp z1]⟩, rfl⟩)
  refine rt_inc (c := 1) rfl rfl ?_
  refine rt_k (k := 1) (pc' := 2) (L' := [some (.ref ga), some (.ref (ad (lNo r))), some (.int (nI (i + 1)))]) (st' := []) (h' := h) (fun _ => rfl) ?_
  exact m_hs1 YG Y hb (i + 1) z0 (fun j s' hj hs' => by
    by_cases q : j = i
    · subst q; rw [he] at hs'; cases hs'; exact fun e => z1 (ai.mpr e)
    · exact H j s' (by omega) hs')
termination_by g.length - i
theorem m_has {r : kL} {ga : Nat} {g : kG} (YG : yG h ad ga g) (Y : yL h (ad (lNo r)) r) (hb : (∀ e ∈ g, lNo e.1 < 2147483648) ∧ lNo r < 2147483648) : rt_ X d 174 0 [some (.ref ga), some (.ref (ad (lNo r))), none] [] h (fun v h' => v = some (.int (tB (inG g (nI (lNo r))))) ∧ h' = h) := by
  refine rt_k (k := 2) (pc' := 2) (L' := [some (.ref ga), some (.ref (ad (lNo r))), some (.int (nI 0))]) (st' := []) (h' := h) (fun _ => rfl) ?_
  exact m_hs1 YG Y hb 0 (Nat.zero_le _) (fun j s hj => absurd hj (Nat.not_lt_zero _))
end NH

