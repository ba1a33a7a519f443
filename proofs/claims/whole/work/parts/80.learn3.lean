/-! THE SOLVER, 8: all that it learns. -/
section SO8
variable {X : Nat × (Nat → Int32)} {d : Nat} {h : List va_E} {Q : Option Value → List va_E → Prop} {I : List kL} {D : kD} {nx : Nat} {le so : Prop} {fo : Nat → Prop} {gn : Nat → Int64}
noncomputable abbrev lG (I : List kL) : Nat := nbn I I.length
abbrev lM (I : List kL) : Nat → Nat → Prop := lmem I I.length
/-- whom a place rules out -/
def lX (I : List kL) (gn : Nat → Int64) (p : Nat) (q : Nat) : Prop := ∃ r, I[p]? = some r ∧ ((xNe I (lG I) (lM I) gn (lNe r) q ∨ xOw (lG I) (lM I) gn r p q) ∨ xBr I (lG I) (lM I) gn (lBr r) q)
def lRiv (I : List kL) (gn : Nat → Int64) (i a q : Nat) : Prop := ∃ p, p < i ∧ syR p (lX I gn p) a q
def lNed (I : List kL) (gn : Nat → Int64) (i a g : Nat) : Prop := a < i ∧ ∃ r, I[a]? = some r ∧ neG (lG I) gn (lNe r) g
def lOp0 (I : List kL) (gn : Nat → Int64) (i q : Nat) : Prop := q < I.length ∧ ¬ (q < i ∧ ∃ r, I[q]? = some r ∧ noG (lG I) gn (lNe r))
theorem so_le1 {rg : Nat → Prop} {li : Prop} (i : Nat) (h : List va_E) (riv ned : Nat → Nat → Prop) (op : Nat → Prop) (CI : cI h I nx) (C : sR h I.length (lG I) (lM I) gn riv ned rg op li le so fo) (hi : i ≤ I.length) (hr : ∀ a, a < I.length → ∀ q, q < 32 → (riv a q ↔ lRiv I gn i a q)) (hd : ∀ a, a < I.length → ∀ g, g < 32 → (ned a g ↔ lNed I gn i a g)) (ho : ∀ q, q < 32 → (op q ↔ lOp0 I gn i q)) (k : ∀ (h' : List va_E) (riv' ned' : Nat → Nat → Prop) (op' : Nat → Prop) x, fr_ sB h h' → sR h' I.length (lG I) (lM I) gn riv' ned' rg op' li le so fo → (∀ a, a < I.length → ∀ q, q < 32 → (riv' a q ↔ lRiv I gn I.length a q)) → (∀ a, a < I.length → ∀ g, g < 32 → (ned' a g ↔ lNed I gn I.length a g)) → (∀ q, q < 32 → (op' q ↔ lOp0 I gn I.length q)) → rt_ X (d + 5) 73 41 [some (.ref 9), x] [] h' Q) : rt_ X (d + 5) 73 14 [some (.ref 9), some (.int (nI i))] [] h Q := by
  obtain ⟨M, N, R, E, nx', c9, c10, c11, c12, c13, c4, hG, hn, HM, HR⟩ := id C
  refine rt_k (k := 2) (pc' := 16) (L' := [some (.ref 9), some (.int (nI i))]) (st' := [.ref 9, .int (nI i)]) (h' := h) (fun _ => rfl) ?_
  refine rt_gf rfl c9 rfl rfl ?_
  refine rt_cvE (v := some (.int (nI I.length))) (h' := h) rfl (by decide) c4 rfl rfl rfl rfl ?_ ?_
  · refine rt_k (k := 1) (pc' := 1) (L' := [some (.ref 4)]) (st' := [.ref 4]) (h' := h) (fun _ => rfl) ?_
    refine rt_gf rfl c4 rfl rfl ?_
    exact rt_r (v := some (.int (nI I.length))) rfl rfl ⟨rfl, rfl⟩
  refine rt_ige rfl (by omega) (by omega) (fun z => ?_) (fun z => ?_)
  ·
    have e : i = I.length := by omega
    subst e
    exact k h riv ned op _ fr_rf C hr hd ho
  obtain ⟨r, hr0⟩ := gt_ex z
  refine rt_k (k := 2) (pc' := 27) (L' := [some (.ref 9), some (.int (nI i))]) (st' := [.int (nI i), .ref 9]) (h' := h) (fun _ => rfl) ?_
  refine rt_cv rfl (by decide) c9 rfl rfl rfl rfl (so_needs CI C hr0) ?_
  rintro _ h1 ⟨rfl, f1, riv1, ned1, op1, C1, q1, q2, q3⟩
  have CI1 := CI.fm f1 (by decide) (by decide) sB_zz
  obtain ⟨M1, N1, R1, E1, nx1, k9, -⟩ := id C1
  refine rt_k (k := 2) (pc' := 32) (L' := [some (.ref 9), some (.int (nI i))]) (st' := [.int (nI i), .ref 9]) (h' := h1) (fun _ => rfl) ?_
  refine rt_cv rfl (by decide) k9 rfl rfl rfl rfl (so_breaks CI1 C1 hr0) ?_
  rintro _ h2 ⟨rfl, f2, riv2, C2, q4⟩
  refine rt_inc (c := 1) rfl rfl ?_
  refine rt_k (k := 1) (pc' := 14) (L' := [some (.ref 9), some (.int (nI (i + 1)))]) (st' := []) (h' := h2) (fun _ => rfl) ?_
  refine so_le1 (i + 1) h2 riv2 ned1 op1 (CI1.fm f2 (by decide) (by decide) sB_zz) C2 z (fun a ha q hq => ?_) (fun a ha g hg => ?_) (fun q hq => ?_) (fun h' riv' ned' op' x f3 => k h' riv' ned' op' x (fr_tr (fr_tr f1 f2) f3))
  · rw [q4 a ha q hq, q1 a ha q hq, hr a ha q hq, or_assoc, ← syR_or]
    have e : ∀ z, (((xNe I (lG I) (lM I) gn (lNe r) z ∨ xOw (lG I) (lM I) gn r i z) ∨ xBr I (lG I) (lM I) gn (lBr r) z) ↔ lX I gn i z) := fun z => ⟨fun w => ⟨r, hr0, w⟩, fun ⟨r', h1, w⟩ => by rw [hr0] at h1; cases h1; exact w⟩
    rw [syR_cg e]
    constructor
    · rintro (⟨p, h1, h2⟩ | h1)
      · exact ⟨p, by omega, h2⟩
      · exact ⟨i, by omega, h1⟩
    · rintro ⟨p, h1, h2⟩
      by_cases e : p = i
      · subst e; exact Or.inr h2
      · exact Or.inl ⟨p, by omega, h2⟩
  · rw [q3 a ha g hg, hd a ha g hg]
    unfold lNed
    constructor
    · rintro (⟨h1, h2⟩ | ⟨rfl, h1⟩)
      · exact ⟨by omega, h2⟩
      · exact ⟨by omega, r, hr0, h1⟩
    · rintro ⟨h1, r', h2, h3⟩
      by_cases e : a = i
      · subst e; rw [hr0] at h2; cases h2; exact Or.inr ⟨rfl, h3⟩
      · exact Or.inl ⟨by omega, r', h2, h3⟩
  · rw [q2 q hq, ho q hq]
    unfold lOp0
    rw [and_assoc]
    refine and_congr Iff.rfl ⟨fun w w2 => ?_, fun w => ⟨fun w2 => w ⟨by omega, w2.2⟩, fun w2 => w ⟨by omega, r, by rw [w2.1]; exact hr0, w2.2⟩⟩⟩
    obtain ⟨h1, r', h2, h3⟩ := w2
    by_cases e : q = i
    · subst e; rw [hr0] at h2; cases h2; exact w.2 ⟨rfl, h3⟩
    · exact w.1 ⟨by omega, r', h2, h3⟩
termination_by I.length - i
theorem so_le2 {n G : Nat} {mem riv ned : Nat → Nat → Prop} {rg : Nat → Prop} {li : Prop} (op0 : Nat → Prop) (i : Nat) (h : List va_E) (op : Nat → Prop) (C : sR h n G mem gn riv ned rg op li le so fo) (hi : i ≤ n) (ho : ∀ q, q < 32 → (op q ↔ op0 q ∧ ¬ (q < i ∧ riv q q))) (k : ∀ (h' : List va_E) (op' : Nat → Prop) x, fr_ sB h h' → sR h' n G mem gn riv ned rg op' li le so fo → (∀ q, q < 32 → (op' q ↔ op0 q ∧ ¬ (q < n ∧ riv q q))) → rt_ X (d + 5) 73 87 [some (.ref 9), x] [] h' Q) : rt_ X (d + 5) 73 43 [some (.ref 9), some (.int (nI i))] [] h Q := by
  obtain ⟨M, N, R, E, nx', c9, c10, c11, c12, c13, c4, hG, hn, HM, HR⟩ := id C
  refine rt_k (k := 2) (pc' := 45) (L' := [some (.ref 9), some (.int (nI i))]) (st' := [.ref 9, .int (nI i)]) (h' := h) (fun _ => rfl) ?_
  refine rt_gf rfl c9 rfl rfl ?_
  refine rt_cvE (v := some (.int (nI n))) (h' := h) rfl (by decide) c4 rfl rfl rfl rfl ?_ ?_
  · refine rt_k (k := 1) (pc' := 1) (L' := [some (.ref 4)]) (st' := [.ref 4]) (h' := h) (fun _ => rfl) ?_
    refine rt_gf rfl c4 rfl rfl ?_
    exact rt_r (v := some (.int (nI n))) rfl rfl ⟨rfl, rfl⟩
  refine rt_ige rfl (by omega) (by omega) (fun z => ?_) (fun z => ?_)
  ·
    have e : i = n := by omega
    subst e
    exact k h op _ fr_rf C ho
  refine rt_k (k := 1) (pc' := 55) (L' := [some (.ref 9), some (.int (nI i))]) (st' := [.ref 9]) (h' := h) (fun _ => rfl) ?_
  refine rt_gf rfl c9 rfl rfl ?_
  refine rt_k (k := 1) (pc' := 59) (L' := [some (.ref 9), some (.int (nI i))]) (st' := [.int (nI i), .ref 12]) (h' := h) (fun _ => rfl) ?_
  refine rt_ialN rfl c12 rfl (by omega) (by decide) ((HR i z).1) ?_
  refine rt_k (k := 1) (pc' := 61) (L' := [some (.ref 9), some (.int (nI i))]) (st' := [.int (nI i), .int (msk (riv i))]) (h' := h) (fun _ => rfl) ?_
  refine rt_cE rfl rfl (isin (by omega) (riv i)) ?_
  refine rt_pe rfl (fun zi => ?_) (fun zi => ?_)
  ·
    refine rt_inc (c := 1) rfl rfl ?_
    refine rt_k (k := 1) (pc' := 43) (L' := [some (.ref 9), some (.int (nI (i + 1)))]) (st' := []) (h' := h) (fun _ => rfl) ?_
    refine so_le2 op0 (i + 1) h op C z (fun q hq => (ho q hq).trans (and_congr Iff.rfl (not_congr ⟨fun w => ⟨by omega, w.2⟩, fun w => ⟨?_, w.2⟩⟩))) k
    by_cases e : q = i
    · subst e; exact absurd w.2 zi
    · omega
  refine rt_k (k := 2) (pc' := 69) (L' := [some (.ref 9), some (.int (nI i))]) (st' := [.ref 9, .ref 9]) (h' := h) (fun _ => rfl) ?_
  refine rt_gf rfl c9 rfl rfl ?_
  refine rt_k (k := 2) (pc' := 74) (L' := [some (.ref 9), some (.int (nI i))]) (st' := [.int (nI i), .int (nI 1), .int (msk op), .ref 9]) (h' := h) (fun _ => rfl) ?_
  refine rt_mbit rfl (by omega) ?_
  refine rt_k (k := 1) (pc' := 76) (L' := [some (.ref 9), some (.int (nI i))]) (st' := [.int (-1), .int (msk (fun ι => ι = i)), .int (msk op), .ref 9]) (h' := h) (fun _ => rfl) ?_
  refine rt_mnot rfl ?_
  refine rt_mand rfl ?_
  refine rt_pf rfl c9 ⟨rfl, (show 8 < 13 by decide), rfl⟩ ?_
  have f_1 : fr_ (sB) h (h.set 9 (.inr (5, [.ref 4, .ref 6, .ref 10, .ref 11, .int (nI G), .ref 12, .ref 13, .int (msk rg), .int (msk (fun ι => op ι ∧ (¬ (ι = i)))), .int (tB li), .int (tB le), .int (tB so), .int (msk fo)]))) := fr_set (e' := .inr (5, [.ref 4, .ref 6, .ref 10, .ref 11, .int (nI G), .ref 12, .ref 13, .int (msk rg), .int (msk (fun ι => op ι ∧ (¬ (ι = i)))), .int (tB li), .int (tB le), .int (tB so), .int (msk fo)])) c9 (by rfl) (by first | decide | simp)
  have c_2 := hs_ne (a := 9) (e' := .inr (5, [.ref 4, .ref 6, .ref 10, .ref 11, .int (nI G), .ref 12, .ref 13, .int (msk rg), .int (msk (fun ι => op ι ∧ (¬ (ι = i)))), .int (tB li), .int (tB le), .int (tB so), .int (msk fo)])) c4 (by decide)
  have c_3 := hs_ne (a := 9) (e' := .inr (5, [.ref 4, .ref 6, .ref 10, .ref 11, .int (nI G), .ref 12, .ref 13, .int (msk rg), .int (msk (fun ι => op ι ∧ (¬ (ι = i)))), .int (tB li), .int (tB le), .int (tB so), .int (msk fo)])) c12 (by decide)
  have c_4 := hs_self (e' := .inr (5, [.ref 4, .ref 6, .ref 10, .ref 11, .int (nI G), .ref 12, .ref 13, .int (msk rg), .int (msk (fun ι => op ι ∧ (¬ (ι = i)))), .int (tB li), .int (tB le), .int (tB so), .int (msk fo)])) c9
  refine rt_inc (c := 1) rfl rfl ?_
  refine rt_k (k := 1) (pc' := 43) (L' := [some (.ref 9), some (.int (nI (i + 1)))]) (st' := []) (h' := (h.set 9 (.inr (5, [.ref 4, .ref 6, .ref 10, .ref 11, .int (nI G), .ref 12, .ref 13, .int (msk rg), .int (msk (fun ι => op ι ∧ (¬ (ι = i)))), .int (tB li), .int (tB le), .int (tB so), .int (msk fo)])))) (fun _ => rfl) ?_
  have C1 : sR (h.set 9 (.inr (5, [.ref 4, .ref 6, .ref 10, .ref 11, .int (nI G), .ref 12, .ref 13, .int (msk rg), .int (msk (fun ι => op ι ∧ (¬ (ι = i)))), .int (tB li), .int (tB le), .int (tB so), .int (msk fo)]))) n G mem gn riv ned rg (fun q => op q ∧ ¬ q = i) li le so fo := C.s9 rg _ li le so fo rfl rfl rfl rfl rfl rfl
  refine so_le2 op0 (i + 1) _ _ C1 z (fun q hq => ?_) (fun h' op' x f2 => k h' op' x (fr_tr f_1 f2))
  show op q ∧ ¬ q = i ↔ _
  rw [ho q hq, and_assoc]
  refine and_congr Iff.rfl ⟨fun w w2 => w.1 ⟨by have := w.2; omega, w2.2⟩, fun w => ⟨fun w2 => w ⟨by omega, w2.2⟩, fun w2 => w ⟨by omega, by rw [w2]; exact zi⟩⟩⟩
termination_by n - i
/-- what was learnt, of an index and roots -/
def lSp (I : List kL) (D : kD) (gn : Nat → Int64) (riv ned : Nat → Nat → Prop) (rg op : Nat → Prop) (li : Prop) : Prop := GN I I.length gn ∧ (∀ a, a < I.length → ∀ q, q < 32 → (riv a q ↔ lRiv I gn I.length a q)) ∧ (∀ a, a < I.length → ∀ g, g < 32 → (ned a g ↔ lNed I gn I.length a g)) ∧ (∀ g, g < 32 → (rg g ↔ neG (lG I) gn D g)) ∧ (li ↔ ¬ noG (lG I) gn D) ∧ ∀ q, q < 32 → (op q ↔ (lOp0 I gn I.length q ∧ ¬ (q < I.length ∧ riv q q)) ∧ opR I (lG I) (lM I) gn D q)
def sL (h : List va_E) (I : List kL) (D : kD) (so : Prop) (fo : Nat → Prop) : Prop := ∃ gn riv ned rg op li, sR h I.length (lG I) (lM I) gn riv ned rg op li True so fo ∧ lSp I D gn riv ned rg op li ∧ ((so ∧ li ∧ cho I.length (lG I) (lM I) riv ned rg (lG I) (fun _ => False) op = some fo) ∨ (¬ so ∧ (¬ li ∨ cho I.length (lG I) (lM I) riv ned rg (lG I) (fun _ => False) op = none)))
/-- the solver's cells, whatever they hold -/
def sZ (h : List va_E) (le : Prop) : Prop := ∃ (G0 rg op li so fo : Int32) (M : Nat → Int32) (N : Nat → Int64) (R E : Nat → Int32), h[9]? = some (.inr (5, [.ref 4, .ref 6, .ref 10, .ref 11, .int G0, .ref 12, .ref 13, .int rg, .int op, .int li, .int (tB le), .int so, .int fo])) ∧ h[10]? = some (.inl (2, 8, .inl M)) ∧ h[11]? = some (.inl (1, 8, .inr (.inl N))) ∧ h[12]? = some (.inl (2, 32, .inl R)) ∧ h[13]? = some (.inl (2, 32, .inl E)) ∧ (li = 0 ∨ li = 1) ∧ (so = 0 ∨ so = 1)
theorem b01 {x : Int32} (h : x = 0 ∨ x = 1) : x = tB (x = 1) := by
  rcases h with rfl | rfl
  · rw [tB_f (by decide)]
  · rw [tB_t rfl]
theorem so_learn (CI : cI h I nx) (CR : cR h D) (h8 : nbn I I.length ≤ 8) (Z : sZ h False) : rt_ X (d + 20) 73 0 [some (.ref 9), none] [] h (fun v h' => v = none ∧ fr_ sB h h' ∧ ∃ so fo, sL h' I D so fo) := by
  obtain ⟨G0, rg0, op0, li0, so0, fo0, M, N, R, E, c9, c10, c11, c12, c13, hl0, hs0⟩ := Z
  rw [b01 hl0, b01 hs0, ← msk_bt rg0, ← msk_bt fo0] at c9
  refine rt_k (k := 1) (pc' := 1) (L' := [some (.ref 9), none]) (st' := [.ref 9]) (h' := h) (fun _ => rfl) ?_
  refine rt_gf rfl c9 rfl rfl ?_
  refine rt_pe rfl (fun _ => ?_) (fun z => absurd z ((by simp)))
  refine rt_k (k := 1) (pc' := 9) (L' := [some (.ref 9), none]) (st' := [.ref 9]) (h' := h) (fun _ => rfl) ?_
  refine rt_cv rfl (by decide) c9 rfl rfl rfl rfl (so_groups CI h8 ⟨G0, op0, c9⟩ ⟨M, c10⟩ ⟨N, c11⟩ ⟨R, c12⟩ ⟨E, c13⟩) ?_
  rintro _ h1 ⟨rfl, f1, gn, hN, C1⟩
  have CI1 := CI.fm f1 (by decide) (by decide) sB_zz
  refine rt_k (k := 2) (pc' := 14) (L' := [some (.ref 9), some (.int (nI 0))]) (st' := []) (h' := h1) (fun _ => rfl) ?_
  refine so_le1 (d := d + 15) 0 h1 _ _ _ CI1 C1 (Nat.zero_le _) (fun a ha q hq => ⟨fun w => absurd w id, fun ⟨p, h1, _⟩ => absurd h1 (Nat.not_lt_zero _)⟩) (fun a ha g hg => ⟨fun w => absurd w id, fun w => absurd w.1 (Nat.not_lt_zero _)⟩) (fun q hq => ⟨fun w => ⟨w, fun w2 => absurd w2.1 (Nat.not_lt_zero _)⟩, fun w => w.1⟩) (fun h2 riv2 ned2 op2 x f2 C2 r1 r2 r3 => ?_)
  refine rt_k (k := 2) (pc' := 43) (L' := [some (.ref 9), some (.int (nI 0))]) (st' := []) (h' := h2) (fun _ => rfl) ?_
  refine so_le2 (d := d + 15) op2 0 h2 op2 C2 (Nat.zero_le _) (fun q hq => ⟨fun w => ⟨w, fun w2 => absurd w2.1 (Nat.not_lt_zero _)⟩, fun w => w.1⟩) (fun h3 op3 x f3 C3 r4 => ?_)
  have f13 := fr_tr (fr_tr f1 f2) f3
  have CI3 := CI.fm f13 (by decide) (by decide) sB_zz
  have CR3 := CR.fm f13 (by decide) (by decide) (by decide) sB_zz
  obtain ⟨M3, N3, R3, E3, nx3, k9, -⟩ := id C3
  refine rt_k (k := 1) (pc' := 88) (L' := [some (.ref 9), x]) (st' := [.ref 9]) (h' := h3) (fun _ => rfl) ?_
  refine rt_cv rfl (by decide) k9 rfl rfl rfl rfl (so_roots CI3 CR3 C3) ?_
  rintro _ h4 ⟨rfl, f4, rg4, op4, li4, C4, r5, r6, r7⟩
  have sp : lSp I D gn riv2 ned2 rg4 op4 li4 := ⟨hN, r1, r2, r5, r6, fun q hq => by rw [r7 q hq, r4 q hq, r3 q hq]⟩
  obtain ⟨M4, N4, R4, E4, nx4, m9, m10, m11, m12, m13, m4, hG4, hn4, -, -⟩ := id C4
  refine rt_k (k := 2) (pc' := 93) (L' := [some (.ref 9), x]) (st' := [.int (nI 0), .ref 9]) (h' := h4) (fun _ => rfl) ?_
  refine rt_pf rfl m9 ⟨rfl, (show 12 < 13 by decide), rfl⟩ ?_
  have f_5 : fr_ (sB) h4 (h4.set 9 (.inr (5, [.ref 4, .ref 6, .ref 10, .ref 11, .int (nI (lG I)), .ref 12, .ref 13, .int (msk rg4), .int (msk op4), .int (tB li4), .int (tB False), .int (tB (so0 = 1)), .int (nI 0)]))) := fr_set (e' := .inr (5, [.ref 4, .ref 6, .ref 10, .ref 11, .int (nI (lG I)), .ref 12, .ref 13, .int (msk rg4), .int (msk op4), .int (tB li4), .int (tB False), .int (tB (so0 = 1)), .int (nI 0)])) m9 (by rfl) (by first | decide | simp)
  have c_6 := hs_self (e' := .inr (5, [.ref 4, .ref 6, .ref 10, .ref 11, .int (nI (lG I)), .ref 12, .ref 13, .int (msk rg4), .int (msk op4), .int (tB li4), .int (tB False), .int (tB (so0 = 1)), .int (nI 0)])) m9
  have C5 : sR (h4.set 9 (.inr (5, [.ref 4, .ref 6, .ref 10, .ref 11, .int (nI (lG I)), .ref 12, .ref 13, .int (msk rg4), .int (msk op4), .int (tB li4), .int (tB False), .int (tB (so0 = 1)), .int (nI 0)]))) I.length (lG I) (lM I) gn riv2 ned2 rg4 op4 li4 False (so0 = 1) (fun _ => False) := C4.s9 rg4 op4 li4 False (so0 = 1) _ rfl rfl rfl rfl rfl (by rw [msk_0]; rfl)
  have f5 := fr_tr (fr_tr f13 f4) f_5
  show rt_ X _ 73 96 [some (.ref 9), x] [] (h4.set 9 (.inr (5, [.ref 4, .ref 6, .ref 10, .ref 11, .int (nI (lG I)), .ref 12, .ref 13, .int (msk rg4), .int (msk op4), .int (tB li4), .int (tB False), .int (tB (so0 = 1)), .int (nI 0)]))) _
  generalize hh : (h4.set 9 (.inr (5, [.ref 4, .ref 6, .ref 10, .ref 11, .int (nI (lG I)), .ref 12, .ref 13, .int (msk rg4), .int (msk op4), .int (tB li4), .int (tB False), .int (tB (so0 = 1)), .int (nI 0)]))) = h5 at *
  obtain ⟨M5, N5, R5, E5, nx5, n9, -⟩ := id C5
  refine rt_k (k := 2) (pc' := 98) (L' := [some (.ref 9), x]) (st' := [.ref 9, .ref 9]) (h' := h5) (fun _ => rfl) ?_
  refine rt_gf rfl n9 rfl rfl ?_
  refine rt_pe rfl (fun zl => ?_) (fun zl => ?_)
  ·
    refine rt_k (k := 1) (pc' := 122) (L' := [some (.ref 9), x]) (st' := [.int (nI 0), .ref 9]) (h' := h5) (fun _ => rfl) ?_
    refine rt_pf rfl n9 ⟨rfl, (show 11 < 13 by decide), rfl⟩ ?_
    have f_7 : fr_ (sB) h5 (h5.set 9 (.inr (5, [.ref 4, .ref 6, .ref 10, .ref 11, .int (nI (lG I)), .ref 12, .ref 13, .int (msk rg4), .int (msk op4), .int (tB li4), .int (tB False), .int (nI 0), .int (msk (fun _ => False))]))) := fr_set (e' := .inr (5, [.ref 4, .ref 6, .ref 10, .ref 11, .int (nI (lG I)), .ref 12, .ref 13, .int (msk rg4), .int (msk op4), .int (tB li4), .int (tB False), .int (nI 0), .int (msk (fun _ => False))])) n9 (by rfl) (by first | decide | simp)
    have c_8 := hs_self (e' := .inr (5, [.ref 4, .ref 6, .ref 10, .ref 11, .int (nI (lG I)), .ref 12, .ref 13, .int (msk rg4), .int (msk op4), .int (tB li4), .int (tB False), .int (nI 0), .int (msk (fun _ => False))])) n9
    have C6 : sR (h5.set 9 (.inr (5, [.ref 4, .ref 6, .ref 10, .ref 11, .int (nI (lG I)), .ref 12, .ref 13, .int (msk rg4), .int (msk op4), .int (tB li4), .int (tB False), .int (nI 0), .int (msk (fun _ => False))]))) I.length (lG I) (lM I) gn riv2 ned2 rg4 op4 li4 False False (fun _ => False) := C5.s9 rg4 op4 li4 False False _ rfl rfl (by rw [tB_f id]; rfl) rfl rfl rfl
    refine rt_k (k := 2) (pc' := 127) (L' := [some (.ref 9), x]) (st' := [.int (nI 1), .ref 9]) (h' := (h5.set 9 (.inr (5, [.ref 4, .ref 6, .ref 10, .ref 11, .int (nI (lG I)), .ref 12, .ref 13, .int (msk rg4), .int (msk op4), .int (tB li4), .int (tB False), .int (nI 0), .int (msk (fun _ => False))])))) (fun _ => rfl) ?_
    refine rt_pf rfl c_8 ⟨rfl, (show 10 < 13 by decide), rfl⟩ ?_
    have f_9 : fr_ (sB) h5 ((h5.set 9 (.inr (5, [.ref 4, .ref 6, .ref 10, .ref 11, .int (nI (lG I)), .ref 12, .ref 13, .int (msk rg4), .int (msk op4), .int (tB li4), .int (tB False), .int (nI 0), .int (msk (fun _ => False))]))).set 9 (.inr (5, [.ref 4, .ref 6, .ref 10, .ref 11, .int (nI (lG I)), .ref 12, .ref 13, .int (msk rg4), .int (msk op4), .int (tB li4), .int (nI 1), .int (nI 0), .int (msk (fun _ => False))]))) := fr_tr f_7 (fr_set (e' := .inr (5, [.ref 4, .ref 6, .ref 10, .ref 11, .int (nI (lG I)), .ref 12, .ref 13, .int (msk rg4), .int (msk op4), .int (tB li4), .int (nI 1), .int (nI 0), .int (msk (fun _ => False))])) c_8 (by rfl) (by first | decide | simp))
    have c_10 := hs_self (e' := .inr (5, [.ref 4, .ref 6, .ref 10, .ref 11, .int (nI (lG I)), .ref 12, .ref 13, .int (msk rg4), .int (msk op4), .int (tB li4), .int (nI 1), .int (nI 0), .int (msk (fun _ => False))])) c_8
    exact rt_r (v := none) rfl rfl ⟨rfl, fr_tr f5 f_9, False, fun _ => False, gn, riv2, ned2, rg4, op4, li4, C6.s9 rg4 op4 li4 True False _ rfl (by rw [tB_t trivial]; rfl) (by rw [tB_f id]; rfl) rfl rfl rfl, sp, Or.inr ⟨id, Or.inl zl⟩⟩
  have hch := so_choose (X := X) (d := d + 15 - lG I) C5 (lG I) (Nat.le_refl _) (fun _ => False) op4
  rw [Nat.sub_self, show lG I + (d + 15 - lG I) + 4 = d + 19 by omega, msk_0] at hch
  refine rt_k (k := 4) (pc' := 108) (L' := [some (.ref 9), x]) (st' := [.ref 9, .int (nI 0), .int (nI 0), .ref 9, .ref 9]) (h' := h5) (fun _ => rfl) ?_
  refine rt_gf rfl n9 rfl rfl ?_
  refine rt_cv rfl (by decide) n9 rfl rfl rfl rfl hch ?_
  rintro _ h6 (⟨q1, rfl, e9⟩ | ⟨r, q1, rfl, e9⟩)
  ·
    rw [e9]
    refine rt_k (k := 2) (pc' := 122) (L' := [some (.ref 9), x]) (st' := [.int (nI 0), .ref 9]) (h' := h5) (fun _ => rfl) ?_
    refine rt_pf rfl n9 ⟨rfl, (show 11 < 13 by decide), rfl⟩ ?_
    have f_11 : fr_ (sB) h5 (h5.set 9 (.inr (5, [.ref 4, .ref 6, .ref 10, .ref 11, .int (nI (lG I)), .ref 12, .ref 13, .int (msk rg4), .int (msk op4), .int (tB li4), .int (tB False), .int (nI 0), .int (msk (fun _ => False))]))) := fr_set (e' := .inr (5, [.ref 4, .ref 6, .ref 10, .ref 11, .int (nI (lG I)), .ref 12, .ref 13, .int (msk rg4), .int (msk op4), .int (tB li4), .int (tB False), .int (nI 0), .int (msk (fun _ => False))])) n9 (by rfl) (by first | decide | simp)
    have c_12 := hs_self (e' := .inr (5, [.ref 4, .ref 6, .ref 10, .ref 11, .int (nI (lG I)), .ref 12, .ref 13, .int (msk rg4), .int (msk op4), .int (tB li4), .int (tB False), .int (nI 0), .int (msk (fun _ => False))])) n9
    have C6 : sR (h5.set 9 (.inr (5, [.ref 4, .ref 6, .ref 10, .ref 11, .int (nI (lG I)), .ref 12, .ref 13, .int (msk rg4), .int (msk op4), .int (tB li4), .int (tB False), .int (nI 0), .int (msk (fun _ => False))]))) I.length (lG I) (lM I) gn riv2 ned2 rg4 op4 li4 False False (fun _ => False) := C5.s9 rg4 op4 li4 False False _ rfl rfl (by rw [tB_f id]; rfl) rfl rfl rfl
    refine rt_k (k := 2) (pc' := 127) (L' := [some (.ref 9), x]) (st' := [.int (nI 1), .ref 9]) (h' := (h5.set 9 (.inr (5, [.ref 4, .ref 6, .ref 10, .ref 11, .int (nI (lG I)), .ref 12, .ref 13, .int (msk rg4), .int (msk op4), .int (tB li4), .int (tB False), .int (nI 0), .int (msk (fun _ => False))])))) (fun _ => rfl) ?_
    refine rt_pf rfl c_12 ⟨rfl, (show 10 < 13 by decide), rfl⟩ ?_
    have f_13 : fr_ (sB) h5 ((h5.set 9 (.inr (5, [.ref 4, .ref 6, .ref 10, .ref 11, .int (nI (lG I)), .ref 12, .ref 13, .int (msk rg4), .int (msk op4), .int (tB li4), .int (tB False), .int (nI 0), .int (msk (fun _ => False))]))).set 9 (.inr (5, [.ref 4, .ref 6, .ref 10, .ref 11, .int (nI (lG I)), .ref 12, .ref 13, .int (msk rg4), .int (msk op4), .int (tB li4), .int (nI 1), .int (nI 0), .int (msk (fun _ => False))]))) := fr_tr f_11 (fr_set (e' := .inr (5, [.ref 4, .ref 6, .ref 10, .ref 11, .int (nI (lG I)), .ref 12, .ref 13, .int (msk rg4), .int (msk op4), .int (tB li4), .int (nI 1), .int (nI 0), .int (msk (fun _ => False))])) c_12 (by rfl) (by first | decide | simp))
    have c_14 := hs_self (e' := .inr (5, [.ref 4, .ref 6, .ref 10, .ref 11, .int (nI (lG I)), .ref 12, .ref 13, .int (msk rg4), .int (msk op4), .int (tB li4), .int (nI 1), .int (nI 0), .int (msk (fun _ => False))])) c_12
    exact rt_r (v := none) rfl rfl ⟨rfl, fr_tr f5 f_13, False, fun _ => False, gn, riv2, ned2, rg4, op4, li4, C6.s9 rg4 op4 li4 True False _ rfl (by rw [tB_t trivial]; rfl) (by rw [tB_f id]; rfl) rfl rfl rfl, sp, Or.inr ⟨id, Or.inr q1⟩⟩
  have C6 : sR h6 I.length (lG I) (lM I) gn riv2 ned2 rg4 op4 li4 False (so0 = 1) r := by rw [e9]; exact C5.s9 rg4 op4 li4 False (so0 = 1) r rfl rfl rfl rfl rfl rfl
  have f6 : fr_ sB h5 h6 := by rw [e9]; exact fr_set n9 (by rfl) (by decide)
  obtain ⟨M6, N6, R6, E6, nx6, p9, -⟩ := id C6
  refine rt_k (k := 3) (pc' := 122) (L' := [some (.ref 9), x]) (st' := [.int (nI 1), .ref 9]) (h' := h6) (fun _ => rfl) ?_
  refine rt_pf rfl p9 ⟨rfl, (show 11 < 13 by decide), rfl⟩ ?_
  have f_15 : fr_ (sB) h6 (h6.set 9 (.inr (5, [.ref 4, .ref 6, .ref 10, .ref 11, .int (nI (lG I)), .ref 12, .ref 13, .int (msk rg4), .int (msk op4), .int (tB li4), .int (tB False), .int (nI 1), .int (msk r)]))) := fr_set (e' := .inr (5, [.ref 4, .ref 6, .ref 10, .ref 11, .int (nI (lG I)), .ref 12, .ref 13, .int (msk rg4), .int (msk op4), .int (tB li4), .int (tB False), .int (nI 1), .int (msk r)])) p9 (by rfl) (by first | decide | simp)
  have c_16 := hs_self (e' := .inr (5, [.ref 4, .ref 6, .ref 10, .ref 11, .int (nI (lG I)), .ref 12, .ref 13, .int (msk rg4), .int (msk op4), .int (tB li4), .int (tB False), .int (nI 1), .int (msk r)])) p9
  have C7 : sR (h6.set 9 (.inr (5, [.ref 4, .ref 6, .ref 10, .ref 11, .int (nI (lG I)), .ref 12, .ref 13, .int (msk rg4), .int (msk op4), .int (tB li4), .int (tB False), .int (nI 1), .int (msk r)]))) I.length (lG I) (lM I) gn riv2 ned2 rg4 op4 li4 False True r := C6.s9 rg4 op4 li4 False True _ rfl rfl (by rw [tB_t trivial]; rfl) rfl rfl rfl
  refine rt_k (k := 2) (pc' := 127) (L' := [some (.ref 9), x]) (st' := [.int (nI 1), .ref 9]) (h' := (h6.set 9 (.inr (5, [.ref 4, .ref 6, .ref 10, .ref 11, .int (nI (lG I)), .ref 12, .ref 13, .int (msk rg4), .int (msk op4), .int (tB li4), .int (tB False), .int (nI 1), .int (msk r)])))) (fun _ => rfl) ?_
  refine rt_pf rfl c_16 ⟨rfl, (show 10 < 13 by decide), rfl⟩ ?_
  have f_17 : fr_ (sB) h6 ((h6.set 9 (.inr (5, [.ref 4, .ref 6, .ref 10, .ref 11, .int (nI (lG I)), .ref 12, .ref 13, .int (msk rg4), .int (msk op4), .int (tB li4), .int (tB False), .int (nI 1), .int (msk r)]))).set 9 (.inr (5, [.ref 4, .ref 6, .ref 10, .ref 11, .int (nI (lG I)), .ref 12, .ref 13, .int (msk rg4), .int (msk op4), .int (tB li4), .int (nI 1), .int (nI 1), .int (msk r)]))) := fr_tr f_15 (fr_set (e' := .inr (5, [.ref 4, .ref 6, .ref 10, .ref 11, .int (nI (lG I)), .ref 12, .ref 13, .int (msk rg4), .int (msk op4), .int (tB li4), .int (nI 1), .int (nI 1), .int (msk r)])) c_16 (by rfl) (by first | decide | simp))
  have c_18 := hs_self (e' := .inr (5, [.ref 4, .ref 6, .ref 10, .ref 11, .int (nI (lG I)), .ref 12, .ref 13, .int (msk rg4), .int (msk op4), .int (tB li4), .int (nI 1), .int (nI 1), .int (msk r)])) c_16
  exact rt_r (v := none) rfl rfl ⟨rfl, fr_tr f5 (fr_tr f6 f_17), True, r, gn, riv2, ned2, rg4, op4, li4, C7.s9 rg4 op4 li4 True True _ rfl (by rw [tB_t trivial]; rfl) (by rw [tB_t trivial]; rfl) rfl rfl rfl, sp, Or.inl ⟨trivial, zl, q1⟩⟩
end SO8

