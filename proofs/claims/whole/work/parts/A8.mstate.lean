/-! THE REFERENCE, 19: its state. -/
def mq (ct md rt kc gn sp nc bc kn : Int32) : Nat → Int32
  | 0 => ct
  | 1 => md
  | 2 => rt
  | 3 => kc
  | 4 => gn
  | 5 => sp
  | 6 => nc
  | 7 => bc
  | _ => kn
/-! what a set of releases must keep to -/
def rcn (D : kD) (S : List kL) : Nat → kL → Prop
  | 0 => fun _ => False
  | n + 1 => fun r => rcn D S n r ∨ (r ∈ S ∧ ((∃ e ∈ D, e.1 = lNm r) ∨ ∃ s ∈ S, rcn D S n s ∧ ∃ e ∈ lNe s, e.1 = lNm r))
def rcd (D : kD) (S : List kL) (r : kL) : Prop := ∃ n, rcn D S n r
def mtD (S : List kL) (e : kW × kR) : Prop := ∃ r ∈ S, lNm r = e.1 ∧ rP (lVe r) e.2
def vl (D : kD) (S : List kL) : Prop := (∀ e ∈ D, mtD S e) ∧ (∀ r ∈ S, (∀ e ∈ lNe r, mtD S e) ∧ ∀ e ∈ lBr r, ¬ mtD S e) ∧ ∀ r ∈ S, rcd D S r
/-- the names of an index, in their order -/
def nmS (J : List kL) (N : List kW) : Prop := N.Pairwise (fun a b => nmI a < nmI b) ∧ ∀ w, w ∈ N ↔ ∃ r ∈ J, lNm r = w
def asg (J : List kL) (N : List kW) (A : List (Option kL)) : Prop := A.length = N.length ∧ ∀ (k : Nat) r, A[k]? = some (some r) → r ∈ J ∧ N[k]? = some (lNm r)
def bfr (x y : Option kL) : Prop := match x, y with
  | none, some _ => True
  | some r, some s => 0 < vc (lVe r) (lVe s)
  | _, none => False
def lxb (A B : List (Option kL)) : Prop := ∃ k : Nat, (∀ j, j < k → A[j]? = B[j]?) ∧ ∃ x y, A[k]? = some x ∧ B[k]? = some y ∧ bfr x y
def fnd (J : List kL) (D : kD) (res : Option (List kL)) : Prop := ∃ N, nmS J N ∧ match res with
  | none => ∀ A, asg J N A → ¬ vl D (A.filterMap id)
  | some B => ∃ A, asg J N A ∧ B = A.filterMap id ∧ vl D B ∧ ∀ A', asg J N A' → vl D (A'.filterMap id) → A' = A ∨ lxb A A'
/-! the rows of the reference; ad: where the release of a number lies -/
def mT (h : List va_E) (T : List Nat) : Prop := (∃ g : Nat → Int32, h[24]? = some (.inl (0, 400, .inl g)) ∧ ∀ j, j < T.length → g j = nI (T.getD j 0)) ∧ T.length ≤ 400 ∧ ∀ c ∈ T, c < 256
def yLs (h : List va_E) (ad : Nat → Nat) (F : Nat → Option Nat) (J : List kL) : Prop := ∀ (i : Nat) r, J[i]? = some r → F i = some (ad (lNo r)) ∧ yL h (ad (lNo r)) r
def mI (h : List va_E) (ad : Nat → Nat) (J : List kL) : Prop := ∃ F : Nat → Option Nat, h[26]? = some (.inl (10, 32, .inr (.inr (.inr (.inr F))))) ∧ J.length ≤ 32 ∧ yLs h ad F J
def mD (h : List va_E) (D : kD) : Prop := ∃ NF RF : Nat → Option Nat, h[27]? = some (.inl (9, 6, .inr (.inr (.inr (.inr NF))))) ∧ h[28]? = some (.inl (11, 6, .inr (.inr (.inr (.inr RF))))) ∧ D.length ≤ 6 ∧ yDf 0 h NF RF D
def yGf (h : List va_E) (ad : Nat → Nat) (F : Nat → Option Nat) (C : Nat → Int32) (g : kG) : Prop := ∀ (i : Nat) e, g[i]? = some e → F i = some (ad (lNo e.1)) ∧ yL h (ad (lNo e.1)) e.1 ∧ C i = nI e.2
def yG (h : List va_E) (ad : Nat → Nat) (a : Nat) (g : kG) : Prop := ∃ (rl ci : Nat) (F : Nat → Option Nat) (C : Nat → Int32), z_ h a (.inr (13, [.ref rl, .ref ci, .int (nI g.length)])) ∧ z_ h rl (.inl (10, 8, .inr (.inr (.inr (.inr F))))) ∧ z_ h ci (.inl (2, 8, .inl C)) ∧ g.length ≤ 8 ∧ yGf h ad F C g
def mKs (h : List va_E) (ad : Nat → Nat) (K : List kG) : Prop := ∃ F : Nat → Option Nat, h[29]? = some (.inl (12, 4, .inr (.inr (.inr (.inr F))))) ∧ 1 ≤ K.length ∧ K.length ≤ 4 ∧ ∀ (i : Nat) g, K[i]? = some g → ∃ a, F i = some a ∧ yG h ad a g
def yNo (h : List va_E) (a n : Nat) : Prop := ∃ fs, z_ h a (.inr (14, .int (nI n) :: fs))
def mSt (h : List va_E) (ad : Nat → Nat) (st : kS) : Prop := ∃ (F : Nat → Option Nat) (C : Nat → Int32), h[30]? = some (.inl (10, 16, .inr (.inr (.inr (.inr F))))) ∧ h[31]? = some (.inl (4, 16, .inl C)) ∧ st.length ≤ 16 ∧ ∀ (i : Nat) e, st[i]? = some e → F i = some (ad e.1) ∧ yNo h (ad e.1) e.1 ∧ C i = nI e.2 ∧ e.2 ≤ 1
def mCb (h : List va_E) (ad : Nat → Nat) (J : List kL) (D : kD) (BF : Nat → Option Nat) (bc : Int32) : Prop := (bc = -1 ∧ fnd J D none) ∨ ∃ B, bc = nI B.length ∧ B.length ≤ 8 ∧ fnd J D (some B) ∧ yLs h ad BF B
def mCa (h : List va_E) (ad : Nat → Nat) (J : List kL) (D : kD) (bc kn : Int32) : Prop := (∃ NF : Nat → Option Nat, h[32]? = some (.inl (9, 8, .inr (.inr (.inr (.inr NF)))))) ∧ (∃ CF : Nat → Option Nat, h[33]? = some (.inl (10, 8, .inr (.inr (.inr (.inr CF)))))) ∧ (∃ RF : Nat → Int32, h[35]? = some (.inl (4, 8, .inl RF))) ∧ ∃ BF : Nat → Option Nat, h[34]? = some (.inl (10, 8, .inr (.inr (.inr (.inr BF))))) ∧ (kn = nI 0 ∨ (kn = nI 1 ∧ mCb h ad J D BF bc))
/-- the reference: its tape, index, next number, roots, kept generations, how many were made, steps -/
def mKp (h : List va_E) (ad : Nat → Nat) (T : List Nat) (J : List kL) (nx : Nat) (D : kD) (K : List kG) (made : Nat) (st : kS) : Prop := 39 ≤ h.length ∧ (∃ nw pa nc bc kn, h[23]? = some (mo (nI T.length) nw pa (mq (nI J.length) (nI nx) (nI D.length) (nI K.length) (nI made) (nI st.length) nc bc kn)) ∧ mCa h ad J D bc kn) ∧ mT h T ∧ mW h [] ∧ mI h ad J ∧ mD h D ∧ mKs h ad K ∧ mSt h ad st
theorem yLs.ex {h h' : List va_E} {ad : Nat → Nat} {F : Nat → Option Nat} {J : List kL} (E : ex_ h h') (C : yLs h ad F J) : yLs h' ad F J := fun i r hr => ⟨(C i r hr).1, (C i r hr).2.ex E⟩
theorem mI.ex {h h' : List va_E} {ad : Nat → Nat} {J : List kL} (E : ex_ h h') (e : h'[26]? = h[26]?) (C : mI h ad J) : mI h' ad J := by
  obtain ⟨F, a, b, c⟩ := C
  exact ⟨F, e.trans a, b, c.ex E⟩
theorem mD.ex {h h' : List va_E} {D : kD} (E : ex_ h h') (e1 : h'[27]? = h[27]?) (e2 : h'[28]? = h[28]?) (C : mD h D) : mD h' D := by
  obtain ⟨F, G, a, b, c, d⟩ := C
  exact ⟨F, G, e1.trans a, e2.trans b, c, d.ex E⟩
theorem yG.ex {h h' : List va_E} {ad : Nat → Nat} {a : Nat} {g : kG} (E : ex_ h h') (C : yG h ad a g) : yG h' ad a g := by
  obtain ⟨rl, ci, F, S, a1, a2, a3, a4, a5⟩ := C
  exact ⟨rl, ci, F, S, E _ _ a1, E _ _ a2, E _ _ a3, a4, fun i e he => ⟨(a5 i e he).1, (a5 i e he).2.1.ex E, (a5 i e he).2.2⟩⟩
theorem mKs.ex {h h' : List va_E} {ad : Nat → Nat} {K : List kG} (E : ex_ h h') (e : h'[29]? = h[29]?) (C : mKs h ad K) : mKs h' ad K := by
  obtain ⟨F, a, b, c, d⟩ := C
  exact ⟨F, e.trans a, b, c, fun i g hg => by obtain ⟨x, y, z⟩ := d i g hg; exact ⟨x, y, z.ex E⟩⟩
theorem mSt.ex {h h' : List va_E} {ad : Nat → Nat} {st : kS} (E : ex_ h h') (e1 : h'[30]? = h[30]?) (e2 : h'[31]? = h[31]?) (C : mSt h ad st) : mSt h' ad st := by
  obtain ⟨F, S, a, b, c, d⟩ := C
  exact ⟨F, S, e1.trans a, e2.trans b, c, fun i x hx => by
    obtain ⟨p, ⟨fs, q⟩, r⟩ := d i x hx
    exact ⟨p, ⟨fs, E _ _ q⟩, r⟩⟩
theorem mCa.ex {h h' : List va_E} {ad : Nat → Nat} {J : List kL} {D : kD} {bc kn : Int32} (E : ex_ h h') (e : ∀ k, 32 ≤ k → k ≤ 35 → h'[k]? = h[k]?) (C : mCa h ad J D bc kn) : mCa h' ad J D bc kn := by
  obtain ⟨⟨NF, a1⟩, ⟨CF, a2⟩, ⟨RF, a3⟩, BF, a4, a5⟩ := C
  refine ⟨⟨NF, (e 32 (by omega) (by omega)).trans a1⟩, ⟨CF, (e 33 (by omega) (by omega)).trans a2⟩, ⟨RF, (e 35 (by omega) (by omega)).trans a3⟩, BF, (e 34 (by omega) (by omega)).trans a4, ?_⟩
  rcases a5 with q | ⟨q, q2⟩
  · exact Or.inl q
  · refine Or.inr ⟨q, ?_⟩
    rcases q2 with y | ⟨B, y1, y2, y3, y4⟩
    · exact Or.inl y
    · exact Or.inr ⟨B, y1, y2, y3, y4.ex E⟩
theorem mCa.kn0 {h : List va_E} {ad ad' : Nat → Nat} {J J' : List kL} {D D' : kD} {bc kn : Int32} (C : mCa h ad J D bc kn) : mCa h ad' J' D' bc (nI 0) := by
  obtain ⟨a1, a2, a3, BF, a4, a5⟩ := C
  exact ⟨a1, a2, a3, BF, a4, Or.inl rfl⟩
/-- the reference's own cells -/
abbrev mB : Nat → Prop := fun z => 23 ≤ z ∧ z ≤ 35
theorem mB_zz : ∀ k, zz k → ¬ mB k := fun k q => by unfold zz at q; unfold mB; omega
theorem mA_B : ∀ k, mA k → mB k := fun k q => by unfold mA at q; unfold mB; omega
/-- a read of the tape leaves it empty; the rest stays -/
theorem mKp.rd {h h' : List va_E} {ad : Nat → Nat} {T : List Nat} {J : List kL} {nx : Nat} {D : kD} {K : List kG} {made : Nat} {st : kS} {c s : Nat} {nw pa nc bc kn nw' pa' : Int32} (C : mKp h ad T J nx D K made st) (c23 : h[23]? = some (mo (nI T.length) nw pa (mq (nI J.length) (nI nx) (nI D.length) (nI K.length) (nI made) (nI st.length) nc bc kn))) (G : gr mA c s h h') (W : mW h' []) (d23 : h'[23]? = some (mo (nI 0) nw' pa' (mq (nI J.length) (nI nx) (nI D.length) (nI K.length) (nI made) (nI st.length) nc bc kn))) : mKp h' ad [] J nx D K made st := by
  obtain ⟨l, ⟨nw0, pa0, nc0, bc0, kn0, c0, CA⟩, ⟨⟨g, t1, t2⟩, t3, t4⟩, -, CI, CD, CK, CS⟩ := C
  rw [c23] at c0
  unfold mo mq at c0
  injection c0 with c0
  injection c0 with c0
  injection c0 with _ c0
  simp only [List.cons.injEq, Value.int.injEq, and_true, true_and] at c0
  obtain ⟨-, -, -, e1, e2⟩ := c0
  subst e1 e2
  have E := gr_ex G mA_zz
  have e : ∀ k, k < 39 → ¬ mA k → h'[k]? = h[k]? := fun k hk hn => G.2.2.2 k (by omega) hn
  exact ⟨Nat.le_trans l G.1, ⟨nw', pa', _, _, _, d23, CA.ex E (fun k h1 h2 => e k (by omega) (by unfold mA; omega))⟩, ⟨⟨g, (e 24 (by omega) (by unfold mA; omega)).trans t1, fun j hj => absurd hj (Nat.not_lt_zero _)⟩, Nat.zero_le _, fun c hc => by cases hc⟩, W, CI.ex E (e 26 (by omega) (by unfold mA; omega)), CD.ex E (e 27 (by omega) (by unfold mA; omega)) (e 28 (by omega) (by unfold mA; omega)), CK.ex E (e 29 (by omega) (by unfold mA; omega)), CS.ex E (e 30 (by omega) (by unfold mA; omega)) (e 31 (by omega) (by unfold mA; omega))⟩

