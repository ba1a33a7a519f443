/-! THE REFERENCE, 26: what a set has, whether it is valid. -/
def yE (h : List va_E) (ad : Nat → Nat) (f : Option Nat) (x : Option kL) : Prop := match x with
  | none => f = none
  | some r => f = some (ad (lNo r)) ∧ yL h (ad (lNo r)) r
def yA (h : List va_E) (ad : Nat → Nat) (sa : Nat) (F : Nat → Option Nat) (A : List (Option kL)) : Prop := h[sa]? = some (.inl (10, 8, .inr (.inr (.inr (.inr F))))) ∧ A.length ≤ 8 ∧ ∀ (i : Nat) x, A[i]? = some x → yE h ad (F i) x
theorem yE.ex {h h' : List va_E} {ad : Nat → Nat} {f : Option Nat} {x : Option kL} (E : ex_ h h') (C : yE h ad f x) : yE h' ad f x := by
  cases x with
  | none => exact C
  | some r => exact ⟨C.1, C.2.ex E⟩
theorem yA.ex {h h' : List va_E} {ad : Nat → Nat} {sa : Nat} {F : Nat → Option Nat} {A : List (Option kL)} (E : ex_ h h') (e : h'[sa]? = h[sa]?) (C : yA h ad sa F A) : yA h' ad sa F A := ⟨e.trans C.1, C.2.1, fun i x hx => (C.2.2 i x hx).ex E⟩
def ofP (ad : Nat → Nat) (A : List (Option kL)) (w : kW) (v : Option Value) : Prop := (∃ (i : Nat) (r : kL), A[i]? = some (some r) ∧ lNm r = w ∧ v = some (.ref (ad (lNo r)))) ∨ ((∀ (i : Nat) r, A[i]? = some (some r) → ¬ lNm r = w) ∧ v = some .null)
def dsA (A : List (Option kL)) : Prop := ∀ (i j : Nat) r s, A[i]? = some (some r) → A[j]? = some (some s) → lNm r = lNm s → i = j
theorem of_mt1 {A : List (Option kL)} {i : Nat} {r : kL} {e : kW × kR} (U : dsA A) (hi : A[i]? = some (some r)) (e1 : lNm r = e.1) : mtD (A.filterMap id) e ↔ rP (lVe r) e.2 := by
  constructor
  · rintro ⟨s, hs, a, b⟩
    obtain ⟨j, hj⟩ := fm_in.mp hs
    have := U i j r s hi hj (e1.trans a.symm)
    subst this
    rw [hi] at hj
    cases hj
    exact b
  · intro q
    exact ⟨r, fm_in.mpr ⟨i, hi⟩, e1, q⟩
theorem of_mt0 {A : List (Option kL)} {e : kW × kR} (H : ∀ (i : Nat) r, A[i]? = some (some r) → ¬ lNm r = e.1) : ¬ mtD (A.filterMap id) e := fun ⟨s, hs, a, b⟩ => by
  obtain ⟨j, hj⟩ := fm_in.mp hs
  exact H j s hj a
section NA
variable {X : Nat × (Nat → Int32)} {d : Nat} {h : List va_E} {Q : Option Value → List va_E → Prop} {ad : Nat → Nat} {J : List kL} {D : kD} {x y z md kc gn sp nc bc kn : Int32}
variable {sa : Nat} {F : Nat → Option Nat} {A : List (Option kL)}
theorem m_of1 {na : Nat} {w : kW} (CA : yA h ad sa F A) (S : sS h na w) (i : Nat) (hi : i ≤ A.length) (H : ∀ (j : Nat) s, j < i → A[j]? = some (some s) → ¬ lNm s = w) : rt_ X (d + 2) 160 2 [some (.ref sa), some (.int (nI A.length)), some (.ref na), some (.int (nI i))] [] h (fun v h' => h' = h ∧ ofP ad A w v) := by
  obtain ⟨ca, hA, HA⟩ := id CA
  refine rt_k (k := 2) (pc' := 4) (L' := [some (.ref sa), some (.int (nI A.length)), some (.ref na), some (.int (nI i))]) (st' := [.int (nI A.length), .int (nI i)]) (h' := h) (fun _ => rfl) ?_
  refine rt_ige rfl (by omega) (by omega) (fun z0 => ?_) (fun z0 => ?_)
  ·
    refine rt_k (k := 1) (pc' := 37) (L' := [some (.ref sa), some (.int (nI A.length)), some (.ref na), some (.int (nI i))]) (st' := [.null]) (h' := h) (fun _ => rfl) ?_
    exact rt_r (v := some (.null)) rfl rfl (⟨rfl, Or.inr ⟨fun j r hj => H j r (by have := gt_lt hj; omega) hj, rfl⟩⟩)
  obtain ⟨x0, hx⟩ := gt_ex z0
  have Y0 := HA i x0 hx
  cases x0 with
  | none =>
    have f1 : F i = none := Y0
    refine rt_k (k := 2) (pc' := 9) (L' := [some (.ref sa), some (.int (nI A.length)), some (.ref na), some (.int (nI i))]) (st' := [.int (nI i), .ref sa]) (h' := h) (fun _ => rfl) ?_
    refine rt_aalO rfl ca rfl (by omega) (by decide) f1 ?_
    refine rt_k (k := 1) (pc' := 30) (L' := [some (.ref sa), some (.int (nI A.length)), some (.ref na), some (.int (nI i))]) (st' := []) (h' := h) (fun _ => rfl) ?_
    refine rt_inc (c := 1) rfl rfl ?_
    refine rt_k (k := 1) (pc' := 2) (L' := [some (.ref sa), some (.int (nI A.length)), some (.ref na), some (.int (nI (i + 1)))]) (st' := []) (h' := h) (fun _ => rfl) ?_
    exact m_of1 CA S (i + 1) z0 (fun j s hj hs => by
      by_cases q : j = i
      · subst q; rw [hx] at hs; cases hs
      · exact H j s (by omega) hs)
  | some r =>
    obtain ⟨f1, Y⟩ := Y0
    obtain ⟨nm, ve, nd, nr, bk, br, ow, NF, RF, BF, QF, OF, ⟨zr, cr⟩, ⟨-, cnd⟩, ⟨-, cnr⟩, ⟨-, cbk⟩, ⟨-, cbr⟩, ⟨-, cow⟩, hln, Sn, Vn, DN, DB, WO⟩ := id (Y)
    obtain ⟨nv, nx', ny', ncc, -, -⟩ := Sn.at
    refine rt_k (k := 2) (pc' := 9) (L' := [some (.ref sa), some (.int (nI A.length)), some (.ref na), some (.int (nI i))]) (st' := [.int (nI i), .ref sa]) (h' := h) (fun _ => rfl) ?_
    refine rt_aalN rfl ca rfl (by omega) (by decide) f1 ?_
    refine rt_k (k := 3) (pc' := 15) (L' := [some (.ref sa), some (.int (nI A.length)), some (.ref na), some (.int (nI i))]) (st' := [.int (nI i), .ref sa]) (h' := h) (fun _ => rfl) ?_
    refine rt_aalN rfl ca rfl (by omega) (by decide) f1 ?_
    refine rt_gf rfl cr rfl rfl ?_
    refine rt_k (k := 1) (pc' := 20) (L' := [some (.ref sa), some (.int (nI A.length)), some (.ref na), some (.int (nI i))]) (st' := [.ref na, .ref nm]) (h' := h) (fun _ => rfl) ?_
    refine rt_cvE rfl (by decide) ncc rfl rfl rfl rfl (st_eq Sn S) ?_
    refine rt_pe rfl (fun z1 => ?_) (fun z1 => ?_)
    rotate_left
    ·
      refine rt_k (k := 2) (pc' := 28) (L' := [some (.ref sa), some (.int (nI A.length)), some (.ref na), some (.int (nI i))]) (st' := [.int (nI i), .ref sa]) (h' := h) (fun _ => rfl) ?_
      refine rt_aalN rfl ca rfl (by omega) (by decide) f1 ?_
      exact rt_r (v := some (.ref (ad (lNo r)))) rfl rfl (⟨rfl, Or.inl ⟨i, r, hx, z1, rfl⟩⟩)
    refine rt_inc (c := 1) rfl rfl ?_
    refine rt_k (k := 1) (pc' := 2) (L' := [some (.ref sa), some (.int (nI A.length)), some (.ref na), some (.int (nI (i + 1)))]) (st' := []) (h' := h) (fun _ => rfl) ?_
    exact m_of1 CA S (i + 1) z0 (fun j s hj hs => by
      by_cases q : j = i
      · subst q; rw [hx] at hs; cases hs; exact z1
      · exact H j s (by omega) hs)
termination_by A.length - i
theorem m_of {na : Nat} {w : kW} (CA : yA h ad sa F A) (S : sS h na w) : rt_ X (d + 2) 160 0 [some (.ref sa), some (.int (nI A.length)), some (.ref na), none] [] h (fun v h' => h' = h ∧ ofP ad A w v) := by
  refine rt_k (k := 2) (pc' := 2) (L' := [some (.ref sa), some (.int (nI A.length)), some (.ref na), some (.int (nI 0))]) (st' := []) (h' := h) (fun _ => rfl) ?_
  exact m_of1 CA S 0 (Nat.zero_le _) (fun j s hj => absurd hj (Nat.not_lt_zero _))
theorem yA.at {i : Nat} {r : kL} (CA : yA h ad sa F A) (hr : A[i]? = some (some r)) : yL h (ad (lNo r)) r := (CA.2.2 i _ hr).2
/-- the roots -/
theorem m_va1 (c23 : h[23]? = some (mo x y z (mq (nI J.length) md (nI D.length) kc gn sp nc bc kn))) (CD : mD h D) (CA : yA h ad sa F A) (U : dsA A) (x4 x5 x6 : Option Value) (kn : (∃ e ∈ D, ¬ mtD (A.filterMap id) e) → Q (some (.int (nI 0))) h) (k : ∀ y4, (∀ e ∈ D, mtD (A.filterMap id) e) → rt_ X (d + 10) 159 53 [some (.ref 23), some (.ref sa), some (.int (nI A.length)), some (.int (nI D.length)), y4, x5, x6] [] h Q) (i : Nat) (hi : i ≤ D.length) (H : ∀ (j : Nat) e, j < i → D[j]? = some e → mtD (A.filterMap id) e) : rt_ X (d + 10) 159 2 [some (.ref 23), some (.ref sa), some (.int (nI A.length)), some (.int (nI i)), x4, x5, x6] [] h Q := by
  obtain ⟨DN, DR, c27, c28, hD, HD⟩ := id CD
  refine rt_k (k := 2) (pc' := 4) (L' := [some (.ref 23), some (.ref sa), some (.int (nI A.length)), some (.int (nI i)), x4, x5, x6]) (st' := [.ref 23, .int (nI i)]) (h' := h) (fun _ => by first | rfl | (cases x4 <;> rfl) | (cases x5 <;> rfl) | (cases x6 <;> rfl)) ?_
  refine rt_gf rfl c23 rfl rfl ?_
  refine rt_ige rfl (by omega) (by omega) (fun z0 => ?_) (fun z0 => ?_)
  ·
    have e : i = D.length := by omega
    subst e
    exact k x4 (fun e he => by obtain ⟨j, hj⟩ := gt_mem he; exact H j e (gt_lt hj) hj)
  obtain ⟨e, he⟩ := gt_ex z0
  obtain ⟨⟨b, f1, Sb⟩, ra, f2, Yr⟩ := HD i e he
  have hm := List.mem_of_getElem? he
  refine rt_k (k := 3) (pc' := 13) (L' := [some (.ref 23), some (.ref sa), some (.int (nI A.length)), some (.int (nI i)), x4, x5, x6]) (st' := [.ref 23, .int (nI A.length), .ref sa]) (h' := h) (fun _ => by first | rfl | (cases x4 <;> rfl) | (cases x5 <;> rfl) | (cases x6 <;> rfl)) ?_
  refine rt_gf rfl c23 rfl rfl ?_
  refine rt_k (k := 1) (pc' := 17) (L' := [some (.ref 23), some (.ref sa), some (.int (nI A.length)), some (.int (nI i)), x4, x5, x6]) (st' := [.int (nI i), .ref 27, .int (nI A.length), .ref sa]) (h' := h) (fun _ => by first | rfl | (cases x4 <;> rfl) | (cases x5 <;> rfl) | (cases x6 <;> rfl)) ?_
  refine rt_aalN rfl c27 rfl (by omega) (by decide) f1 ?_
  refine rt_cH rfl rfl (m_of (d := d + 7) CA Sb) ?_
  rintro _ (⟨i', r, e1, e2, rfl⟩ | ⟨e1, rfl⟩)
  ·
    have mt := of_mt1 U e1 e2
    obtain ⟨nm, ve, nd, nr, bk, br, ow, NF, RF, BF, QF, OF, ⟨zr, cr⟩, ⟨-, cnd⟩, ⟨-, cnr⟩, ⟨-, cbk⟩, ⟨-, cbr⟩, ⟨-, cow⟩, hln, Sn, Vn, DN, DB, WO⟩ := id (yA.at CA e1)
    refine rt_k (k := 4) (pc' := 30) (L' := [some (.ref 23), some (.ref sa), some (.int (nI A.length)), some (.int (nI i)), some (.ref (ad (lNo r))), x5, x6]) (st' := [.ref (ad (lNo r))]) (h' := h) (fun _ => by first | rfl | (cases x4 <;> rfl) | (cases x5 <;> rfl) | (cases x6 <;> rfl)) ?_
    refine rt_gf rfl cr rfl rfl ?_
    refine rt_k (k := 1) (pc' := 34) (L' := [some (.ref 23), some (.ref sa), some (.int (nI A.length)), some (.int (nI i)), some (.ref (ad (lNo r))), x5, x6]) (st' := [.ref 23, .ref ve]) (h' := h) (fun _ => by first | rfl | (cases x4 <;> rfl) | (cases x5 <;> rfl) | (cases x6 <;> rfl)) ?_
    refine rt_gf rfl c23 rfl rfl ?_
    refine rt_k (k := 1) (pc' := 38) (L' := [some (.ref 23), some (.ref sa), some (.int (nI A.length)), some (.int (nI i)), some (.ref (ad (lNo r))), x5, x6]) (st' := [.int (nI i), .ref 28, .ref ve]) (h' := h) (fun _ => by first | rfl | (cases x4 <;> rfl) | (cases x5 <;> rfl) | (cases x6 <;> rfl)) ?_
    refine rt_aalN rfl c28 rfl (by omega) (by decide) f2 ?_
    refine rt_cE rfl rfl (m_in (d := d) Vn Yr) ?_
    refine rt_pn rfl (fun z1 => ?_) (fun z1 => ?_)
    ·
      refine rt_inc (c := 1) rfl rfl ?_
      refine rt_k (k := 1) (pc' := 2) (L' := [some (.ref 23), some (.ref sa), some (.int (nI A.length)), some (.int (nI (i + 1))), some (.ref (ad (lNo r))), x5, x6]) (st' := []) (h' := h) (fun _ => by first | rfl | (cases x4 <;> rfl) | (cases x5 <;> rfl) | (cases x6 <;> rfl)) ?_
      exact m_va1 c23 CD CA U _ x5 x6 kn k (i + 1) z0 (fun j e' hj he' => by
        by_cases q : j = i
        · subst q; rw [he] at he'; cases he'; exact mt.mpr z1
        · exact H j e' (by omega) he')
    refine rt_k (k := 1) (pc' := 46) (L' := [some (.ref 23), some (.ref sa), some (.int (nI A.length)), some (.int (nI i)), some (.ref (ad (lNo r))), x5, x6]) (st' := [.int (nI 0)]) (h' := h) (fun _ => by first | rfl | (cases x4 <;> rfl) | (cases x5 <;> rfl) | (cases x6 <;> rfl)) ?_
    exact rt_r (v := some (.int (nI 0))) rfl rfl (kn ⟨e, hm, fun q => z1 (mt.mp q)⟩)
  refine rt_k (k := 4) (pc' := 46) (L' := [some (.ref 23), some (.ref sa), some (.int (nI A.length)), some (.int (nI i)), some (.null), x5, x6]) (st' := [.int (nI 0)]) (h' := h) (fun _ => by first | rfl | (cases x4 <;> rfl) | (cases x5 <;> rfl) | (cases x6 <;> rfl)) ?_
  exact rt_r (v := some (.int (nI 0))) rfl rfl (kn ⟨e, hm, of_mt0 e1⟩)
termination_by D.length - i
/-- the needs of one -/
theorem m_va2 {r : kL} {a m : Nat} (CA : yA h ad sa F A) (U : dsA A) (Y : yL h a r) (x6 : Option Value) (kn : (∃ e ∈ lNe r, ¬ mtD (A.filterMap id) e) → Q (some (.int (nI 0))) h) (k : ∀ y6, (∀ e ∈ lNe r, mtD (A.filterMap id) e) → rt_ X (d + 10) 159 133 [some (.ref 23), some (.ref sa), some (.int (nI A.length)), some (.int (nI m)), some (.ref a), some (.int (nI (lNe r).length)), y6] [] h Q) (i : Nat) (hi : i ≤ (lNe r).length) (H : ∀ (j : Nat) e, j < i → (lNe r)[j]? = some e → mtD (A.filterMap id) e) : rt_ X (d + 10) 159 76 [some (.ref 23), some (.ref sa), some (.int (nI A.length)), some (.int (nI m)), some (.ref a), some (.int (nI i)), x6] [] h Q := by
  obtain ⟨nm1, ve1, nd1, nr1, bk1, br1, ow1, NF1, RF1, BF1, QF1, OF1, ⟨zr1, cr1⟩, ⟨-, cnd1⟩, ⟨-, cnr1⟩, ⟨-, cbk1⟩, ⟨-, cbr1⟩, ⟨-, cow1⟩, hln1, Sn1, Vn1, DN1, DB1, WO1⟩ := id (Y)
  refine rt_k (k := 2) (pc' := 80) (L' := [some (.ref 23), some (.ref sa), some (.int (nI A.length)), some (.int (nI m)), some (.ref a), some (.int (nI i)), x6]) (st' := [.ref a, .int (nI i)]) (h' := h) (fun _ => by first | rfl | (cases x6 <;> rfl)) ?_
  refine rt_gf rfl cr1 rfl rfl ?_
  refine rt_ige rfl (by omega) (by omega) (fun z0 => ?_) (fun z0 => ?_)
  ·
    have e : i = (lNe r).length := by omega
    subst e
    exact k x6 (fun e he => by obtain ⟨j, hj⟩ := gt_mem he; exact H j e (gt_lt hj) hj)
  obtain ⟨e, he⟩ := gt_ex z0
  obtain ⟨⟨b, f1, Sb⟩, ra, f2, Yr⟩ := DN1 i e he
  have hm := List.mem_of_getElem? he
  refine rt_k (k := 3) (pc' := 90) (L' := [some (.ref 23), some (.ref sa), some (.int (nI A.length)), some (.int (nI m)), some (.ref a), some (.int (nI i)), x6]) (st' := [.ref a, .int (nI A.length), .ref sa]) (h' := h) (fun _ => by first | rfl | (cases x6 <;> rfl)) ?_
  refine rt_gf rfl cr1 rfl rfl ?_
  refine rt_k (k := 1) (pc' := 95) (L' := [some (.ref 23), some (.ref sa), some (.int (nI A.length)), some (.int (nI m)), some (.ref a), some (.int (nI i)), x6]) (st' := [.int (nI i), .ref nd1, .int (nI A.length), .ref sa]) (h' := h) (fun _ => by first | rfl | (cases x6 <;> rfl)) ?_
  refine rt_aalN rfl cnd1 rfl (by omega) (by decide) f1 ?_
  refine rt_cH rfl rfl (m_of (d := d + 7) CA Sb) ?_
  rintro _ (⟨i', s, e1, e2, rfl⟩ | ⟨e1, rfl⟩)
  ·
    have mt := of_mt1 U e1 e2
    obtain ⟨nm, ve, nd, nr, bk, br, ow, NF, RF, BF, QF, OF, ⟨zr, cr⟩, ⟨-, cnd⟩, ⟨-, cnr⟩, ⟨-, cbk⟩, ⟨-, cbr⟩, ⟨-, cow⟩, hln, Sn, Vn, DN, DB, WO⟩ := id (yA.at CA e1)
    refine rt_k (k := 4) (pc' := 108) (L' := [some (.ref 23), some (.ref sa), some (.int (nI A.length)), some (.int (nI m)), some (.ref a), some (.int (nI i)), some (.ref (ad (lNo s)))]) (st' := [.ref (ad (lNo s))]) (h' := h) (fun _ => by first | rfl | (cases x6 <;> rfl)) ?_
    refine rt_gf rfl cr rfl rfl ?_
    refine rt_k (k := 1) (pc' := 113) (L' := [some (.ref 23), some (.ref sa), some (.int (nI A.length)), some (.int (nI m)), some (.ref a), some (.int (nI i)), some (.ref (ad (lNo s)))]) (st' := [.ref a, .ref ve]) (h' := h) (fun _ => by first | rfl | (cases x6 <;> rfl)) ?_
    refine rt_gf rfl cr1 rfl rfl ?_
    refine rt_k (k := 1) (pc' := 118) (L' := [some (.ref 23), some (.ref sa), some (.int (nI A.length)), some (.int (nI m)), some (.ref a), some (.int (nI i)), some (.ref (ad (lNo s)))]) (st' := [.int (nI i), .ref nr1, .ref ve]) (h' := h) (fun _ => by first | rfl | (cases x6 <;> rfl)) ?_
    refine rt_aalN rfl cnr1 rfl (by omega) (by decide) f2 ?_
    refine rt_cE rfl rfl (m_in (d := d) Vn Yr) ?_
    refine rt_pn rfl (fun z1 => ?_) (fun z1 => ?_)
    ·
      refine rt_inc (c := 1) rfl rfl ?_
      refine rt_k (k := 1) (pc' := 76) (L' := [some (.ref 23), some (.ref sa), some (.int (nI A.length)), some (.int (nI m)), some (.ref a), some (.int (nI (i + 1))), some (.ref (ad (lNo s)))]) (st' := []) (h' := h) (fun _ => by first | rfl | (cases x6 <;> rfl)) ?_
      exact m_va2 CA U Y _ kn k (i + 1) z0 (fun j e' hj he' => by
        by_cases q : j = i
        · subst q; rw [he] at he'; cases he'; exact mt.mpr z1
        · exact H j e' (by omega) he')
    refine rt_k (k := 1) (pc' := 126) (L' := [some (.ref 23), some (.ref sa), some (.int (nI A.length)), some (.int (nI m)), some (.ref a), some (.int (nI i)), some (.ref (ad (lNo s)))]) (st' := [.int (nI 0)]) (h' := h) (fun _ => by first | rfl | (cases x6 <;> rfl)) ?_
    exact rt_r (v := some (.int (nI 0))) rfl rfl (kn ⟨e, hm, fun q => z1 (mt.mp q)⟩)
  refine rt_k (k := 4) (pc' := 126) (L' := [some (.ref 23), some (.ref sa), some (.int (nI A.length)), some (.int (nI m)), some (.ref a), some (.int (nI i)), some (.null)]) (st' := [.int (nI 0)]) (h' := h) (fun _ => by first | rfl | (cases x6 <;> rfl)) ?_
  exact rt_r (v := some (.int (nI 0))) rfl rfl (kn ⟨e, hm, of_mt0 e1⟩)
termination_by (lNe r).length - i
/-- what one breaks -/
theorem m_va3 {r : kL} {a m : Nat} (CA : yA h ad sa F A) (U : dsA A) (Y : yL h a r) (x6 : Option Value) (kn : (∃ e ∈ lBr r, mtD (A.filterMap id) e) → Q (some (.int (nI 0))) h) (k : ∀ y5 y6, (∀ e ∈ lBr r, ¬ mtD (A.filterMap id) e) → rt_ X (d + 10) 159 193 [some (.ref 23), some (.ref sa), some (.int (nI A.length)), some (.int (nI m)), some (.ref a), y5, y6] [] h Q) (i : Nat) (hi : i ≤ (lBr r).length) (H : ∀ (j : Nat) e, j < i → (lBr r)[j]? = some e → ¬ mtD (A.filterMap id) e) : rt_ X (d + 10) 159 136 [some (.ref 23), some (.ref sa), some (.int (nI A.length)), some (.int (nI m)), some (.ref a), some (.int (nI i)), x6] [] h Q := by
  obtain ⟨nm1, ve1, nd1, nr1, bk1, br1, ow1, NF1, RF1, BF1, QF1, OF1, ⟨zr1, cr1⟩, ⟨-, cnd1⟩, ⟨-, cnr1⟩, ⟨-, cbk1⟩, ⟨-, cbr1⟩, ⟨-, cow1⟩, hln1, Sn1, Vn1, DN1, DB1, WO1⟩ := id (Y)
  refine rt_k (k := 2) (pc' := 140) (L' := [some (.ref 23), some (.ref sa), some (.int (nI A.length)), some (.int (nI m)), some (.ref a), some (.int (nI i)), x6]) (st' := [.ref a, .int (nI i)]) (h' := h) (fun _ => by first | rfl | (cases x6 <;> rfl)) ?_
  refine rt_gf rfl cr1 rfl rfl ?_
  refine rt_ige rfl (by omega) (by omega) (fun z0 => ?_) (fun z0 => ?_)
  ·
    have e : i = (lBr r).length := by omega
    subst e
    exact k _ x6 (fun e he => by obtain ⟨j, hj⟩ := gt_mem he; exact H j e (gt_lt hj) hj)
  obtain ⟨e, he⟩ := gt_ex z0
  obtain ⟨⟨b, f1, Sb⟩, ra, f2, Yr⟩ := DB1 i e he
  have hm := List.mem_of_getElem? he
  refine rt_k (k := 3) (pc' := 150) (L' := [some (.ref 23), some (.ref sa), some (.int (nI A.length)), some (.int (nI m)), some (.ref a), some (.int (nI i)), x6]) (st' := [.ref a, .int (nI A.length), .ref sa]) (h' := h) (fun _ => by first | rfl | (cases x6 <;> rfl)) ?_
  refine rt_gf rfl cr1 rfl rfl ?_
  refine rt_k (k := 1) (pc' := 155) (L' := [some (.ref 23), some (.ref sa), some (.int (nI A.length)), some (.int (nI m)), some (.ref a), some (.int (nI i)), x6]) (st' := [.int (nI i), .ref bk1, .int (nI A.length), .ref sa]) (h' := h) (fun _ => by first | rfl | (cases x6 <;> rfl)) ?_
  refine rt_aalN rfl cbk1 rfl (by omega) (by decide) f1 ?_
  refine rt_cH rfl rfl (m_of (d := d + 7) CA Sb) ?_
  rintro _ (⟨i', s, e1, e2, rfl⟩ | ⟨e1, rfl⟩)
  ·
    have mt := of_mt1 U e1 e2
    obtain ⟨nm, ve, nd, nr, bk, br, ow, NF, RF, BF, QF, OF, ⟨zr, cr⟩, ⟨-, cnd⟩, ⟨-, cnr⟩, ⟨-, cbk⟩, ⟨-, cbr⟩, ⟨-, cow⟩, hln, Sn, Vn, DN, DB, WO⟩ := id (yA.at CA e1)
    refine rt_k (k := 4) (pc' := 168) (L' := [some (.ref 23), some (.ref sa), some (.int (nI A.length)), some (.int (nI m)), some (.ref a), some (.int (nI i)), some (.ref (ad (lNo s)))]) (st' := [.ref (ad (lNo s))]) (h' := h) (fun _ => by first | rfl | (cases x6 <;> rfl)) ?_
    refine rt_gf rfl cr rfl rfl ?_
    refine rt_k (k := 1) (pc' := 173) (L' := [some (.ref 23), some (.ref sa), some (.int (nI A.length)), some (.int (nI m)), some (.ref a), some (.int (nI i)), some (.ref (ad (lNo s)))]) (st' := [.ref a, .ref ve]) (h' := h) (fun _ => by first | rfl | (cases x6 <;> rfl)) ?_
    refine rt_gf rfl cr1 rfl rfl ?_
    refine rt_k (k := 1) (pc' := 178) (L' := [some (.ref 23), some (.ref sa), some (.int (nI A.length)), some (.int (nI m)), some (.ref a), some (.int (nI i)), some (.ref (ad (lNo s)))]) (st' := [.int (nI i), .ref br1, .ref ve]) (h' := h) (fun _ => by first | rfl | (cases x6 <;> rfl)) ?_
    refine rt_aalN rfl cbr1 rfl (by omega) (by decide) f2 ?_
    refine rt_cE rfl rfl (m_in (d := d) Vn Yr) ?_
    refine rt_pe rfl (fun z1 => ?_) (fun z1 => ?_)
    rotate_left
    ·
      refine rt_k (k := 1) (pc' := 186) (L' := [some (.ref 23), some (.ref sa), some (.int (nI A.length)), some (.int (nI m)), some (.ref a), some (.int (nI i)), some (.ref (ad (lNo s)))]) (st' := [.int (nI 0)]) (h' := h) (fun _ => by first | rfl | (cases x6 <;> rfl)) ?_
      exact rt_r (v := some (.int (nI 0))) rfl rfl (kn ⟨e, hm, mt.mpr z1⟩)
    refine rt_inc (c := 1) rfl rfl ?_
    refine rt_k (k := 1) (pc' := 136) (L' := [some (.ref 23), some (.ref sa), some (.int (nI A.length)), some (.int (nI m)), some (.ref a), some (.int (nI (i + 1))), some (.ref (ad (lNo s)))]) (st' := []) (h' := h) (fun _ => by first | rfl | (cases x6 <;> rfl)) ?_
    exact m_va3 CA U Y _ kn k (i + 1) z0 (fun j e' hj he' => by
      by_cases q : j = i
      · subst q; rw [he] at he'; cases he'; exact fun y => z1 (mt.mp y)
      · exact H j e' (by omega) he')
  refine rt_k (k := 3) (pc' := 187) (L' := [some (.ref 23), some (.ref sa), some (.int (nI A.length)), some (.int (nI m)), some (.ref a), some (.int (nI i)), some (.null)]) (st' := []) (h' := h) (fun _ => by first | rfl | (cases x6 <;> rfl)) ?_
  refine rt_inc (c := 1) rfl rfl ?_
  refine rt_k (k := 1) (pc' := 136) (L' := [some (.ref 23), some (.ref sa), some (.int (nI A.length)), some (.int (nI m)), some (.ref a), some (.int (nI (i + 1))), some (.null)]) (st' := []) (h' := h) (fun _ => by first | rfl | (cases x6 <;> rfl)) ?_
  exact m_va3 CA U Y _ kn k (i + 1) z0 (fun j e' hj he' => by
    by_cases q : j = i
    · subst q; rw [he] at he'; cases he'; exact of_mt0 e1
    · exact H j e' (by omega) he')
termination_by (lBr r).length - i
/-- all releases of the set -/
theorem m_va4 (CA : yA h ad sa F A) (U : dsA A) (kn : (∃ r ∈ A.filterMap id, ¬ ((∀ e ∈ lNe r, mtD (A.filterMap id) e) ∧ ∀ e ∈ lBr r, ¬ mtD (A.filterMap id) e)) → Q (some (.int (nI 0))) h) (k : ∀ y4 y5 y6, (∀ r ∈ A.filterMap id, (∀ e ∈ lNe r, mtD (A.filterMap id) e) ∧ ∀ e ∈ lBr r, ¬ mtD (A.filterMap id) e) → rt_ X (d + 10) 159 199 [some (.ref 23), some (.ref sa), some (.int (nI A.length)), some (.int (nI A.length)), y4, y5, y6] [] h Q) (i : Nat) (hi : i ≤ A.length) (H : ∀ (j : Nat) r, j < i → A[j]? = some (some r) → (∀ e ∈ lNe r, mtD (A.filterMap id) e) ∧ ∀ e ∈ lBr r, ¬ mtD (A.filterMap id) e) (x4 x5 x6 : Option Value) : rt_ X (d + 10) 159 55 [some (.ref 23), some (.ref sa), some (.int (nI A.length)), some (.int (nI i)), x4, x5, x6] [] h Q := by
  obtain ⟨ca, hA, HA⟩ := id CA
  refine rt_k (k := 2) (pc' := 57) (L' := [some (.ref 23), some (.ref sa), some (.int (nI A.length)), some (.int (nI i)), x4, x5, x6]) (st' := [.int (nI A.length), .int (nI i)]) (h' := h) (fun _ => by first | rfl | (cases x4 <;> rfl) | (cases x5 <;> rfl) | (cases x6 <;> rfl)) ?_
  refine rt_ige rfl (by omega) (by omega) (fun z0 => ?_) (fun z0 => ?_)
  ·
    have e : i = A.length := by omega
    subst e
    exact k _ _ _ (fun r hr => by obtain ⟨j, hj⟩ := fm_in.mp hr; exact H j r (gt_lt hj) hj)
  obtain ⟨x0, hx⟩ := gt_ex z0
  have Y0 := HA i x0 hx
  cases x0 with
  | none =>
    have f1 : F i = none := Y0
    refine rt_k (k := 2) (pc' := 62) (L' := [some (.ref 23), some (.ref sa), some (.int (nI A.length)), some (.int (nI i)), x4, x5, x6]) (st' := [.int (nI i), .ref sa]) (h' := h) (fun _ => by first | rfl | (cases x4 <;> rfl) | (cases x5 <;> rfl) | (cases x6 <;> rfl)) ?_
    refine rt_aalO rfl ca rfl (by omega) (by decide) f1 ?_
    refine rt_k (k := 4) (pc' := 193) (L' := [some (.ref 23), some (.ref sa), some (.int (nI A.length)), some (.int (nI i)), some (.null), x5, x6]) (st' := []) (h' := h) (fun _ => by first | rfl | (cases x4 <;> rfl) | (cases x5 <;> rfl) | (cases x6 <;> rfl)) ?_
    refine rt_inc (c := 1) rfl rfl ?_
    refine rt_k (k := 1) (pc' := 55) (L' := [some (.ref 23), some (.ref sa), some (.int (nI A.length)), some (.int (nI (i + 1))), some (.null), x5, x6]) (st' := []) (h' := h) (fun _ => by first | rfl | (cases x4 <;> rfl) | (cases x5 <;> rfl) | (cases x6 <;> rfl)) ?_
    exact m_va4 CA U kn k (i + 1) z0 (fun j s hj hs => by
      by_cases q : j = i
      · subst q; rw [hx] at hs; cases hs
      · exact H j s (by omega) hs) _ _ _
  | some r =>
    obtain ⟨f1, Y⟩ := Y0
    have hrS : r ∈ A.filterMap id := fm_in.mpr ⟨i, hx⟩
    generalize ea : ad (lNo r) = a at f1 Y
    refine rt_k (k := 2) (pc' := 62) (L' := [some (.ref 23), some (.ref sa), some (.int (nI A.length)), some (.int (nI i)), x4, x5, x6]) (st' := [.int (nI i), .ref sa]) (h' := h) (fun _ => by first | rfl | (cases x4 <;> rfl) | (cases x5 <;> rfl) | (cases x6 <;> rfl)) ?_
    refine rt_aalN rfl ca rfl (by omega) (by decide) f1 ?_
    refine rt_k (k := 5) (pc' := 76) (L' := [some (.ref 23), some (.ref sa), some (.int (nI A.length)), some (.int (nI i)), some (.ref a), some (.int (nI 0)), x6]) (st' := []) (h' := h) (fun _ => by first | rfl | (cases x4 <;> rfl) | (cases x5 <;> rfl) | (cases x6 <;> rfl)) ?_
    refine m_va2 CA U Y _ (fun ⟨e, he, q⟩ => kn ⟨r, hrS, fun y => q (y.1 e he)⟩) (fun y6 H1 => ?_) 0 (Nat.zero_le _) (fun j e hj => absurd hj (Nat.not_lt_zero _))
    refine rt_k (k := 2) (pc' := 136) (L' := [some (.ref 23), some (.ref sa), some (.int (nI A.length)), some (.int (nI i)), some (.ref a), some (.int (nI 0)), y6]) (st' := []) (h' := h) (fun _ => by first | rfl | (cases y6 <;> rfl)) ?_
    refine m_va3 CA U Y _ (fun ⟨e, he, q⟩ => kn ⟨r, hrS, fun y => y.2 e he q⟩) (fun y5 y6 H2 => ?_) 0 (Nat.zero_le _) (fun j e hj => absurd hj (Nat.not_lt_zero _))
    refine rt_inc (c := 1) rfl rfl ?_
    refine rt_k (k := 1) (pc' := 55) (L' := [some (.ref 23), some (.ref sa), some (.int (nI A.length)), some (.int (nI (i + 1))), some (.ref a), y5, y6]) (st' := []) (h' := h) (fun _ => by first | rfl | (cases y5 <;> rfl) | (cases y6 <;> rfl)) ?_
    exact m_va4 CA U kn k (i + 1) z0 (fun j s hj hs => by
      by_cases q : j = i
      · subst q; rw [hx] at hs; cases hs; exact ⟨H1, H2⟩
      · exact H j s (by omega) hs) _ _ _
termination_by A.length - i
end NA

