/-! THE SOLVER, 3: the choice. -/
section SO3
variable {X : Nat × (Nat → Int32)} {d : Nat} {h : List va_E} {Q : Option Value → List va_E → Prop} {n G : Nat} {mem : Nat → Nat → Prop} {gn : Nat → Int64} {riv ned : Nat → Nat → Prop} {rg op : Nat → Prop} {li le so : Prop} {fo : Nat → Prop}
noncomputable def chL (f : Nat → Option (Nat → Prop)) (sel : Nat → Prop) : Nat → Nat → Option (Nat → Prop)
  | 0, _ => none
  | k + 1, p => @ite (Option (Nat → Prop)) (sel p) (Classical.propDecidable _) (match f p with | some r => some r | none => chL f sel k (p + 1)) (chL f sel k (p + 1))
def chB (G : Nat) (mem : Nat → Nat → Prop) (rg t l : Nat → Prop) : Prop := (∃ q, q < 32 ∧ t q ∧ ¬ l q) ∨ ¬ mRt G mem rg l
/-- the choice for the last k groups -/
noncomputable def cho (n G : Nat) (mem riv ned : Nat → Nat → Prop) (rg : Nat → Prop) : Nat → (Nat → Prop) → (Nat → Prop) → Option (Nat → Prop)
  | 0, t, c => @ite (Option (Nat → Prop)) (chB G mem rg t (stl n G mem riv ned rg c)) (Classical.propDecidable _) none (some t)
  | k + 1, t, c => @ite (Option (Nat → Prop)) (chB G mem rg t (stl n G mem riv ned rg c)) (Classical.propDecidable _) none (match cho n G mem riv ned rg k t (fun q => stl n G mem riv ned rg c q ∧ ¬ mem (G - (k + 1)) q) with
    | some r => some r
    | none => chL (fun p => cho n G mem riv ned rg k (fun q => t q ∨ q = p) (fun q => stl n G mem riv ned rg c q ∧ ¬ riv p q)) (fun p => mem (G - (k + 1)) p ∧ stl n G mem riv ned rg c p) n 0)
noncomputable def sCe (G : Nat) (rg op : Nat → Prop) (li le so : Prop) (fo : Nat → Prop) : va_E := .inr (5, [.ref 4, .ref 6, .ref 10, .ref 11, .int (nI G), .ref 12, .ref 13, .int (msk rg), .int (msk op), .int (tB li), .int (tB le), .int (tB so), .int (msk fo)])
def chP (h : List va_E) (e : (Nat → Prop) → va_E) (o : Option (Nat → Prop)) (v : Option Value) (h' : List va_E) : Prop := (o = none ∧ v = some (.int 0) ∧ h' = h) ∨ ∃ r, o = some r ∧ v = some (.int 1) ∧ h' = h.set 9 (e r)
theorem so_ch1 (C : sR h n G mem gn riv ned rg op li le so fo) {g : Nat} (hg : g < G) (t c l : Nat → Prop) (f : Nat → Option (Nat → Prop)) (IH : ∀ p, p < n → rt_ X (d + 1) 86 0 [some (.ref 9), some (.int (nI (g + 1))), some (.int (msk (fun q => t q ∨ q = p))), some (.int (msk (fun q => l q ∧ ¬ riv p q))), none, none] [] h (chP h (sCe G rg op li le so) (f p))) (m i : Nat) (hi : i + m = n) : rt_ X (d + 2) 86 69 [some (.ref 9), some (.int (nI g)), some (.int (msk t)), some (.int (msk c)), some (.int (msk l)), some (.int (nI i))] [] h (chP h (sCe G rg op li le so) (chL f (fun p => mem g p ∧ l p) m i)) := by
  obtain ⟨M, N, R, E, nx, c9, c10, c11, c12, c13, c4, hG, hn, HM, HR⟩ := id C
  refine rt_k (k := 2) (pc' := 72) (L' := [some (.ref 9), some (.int (nI g)), some (.int (msk t)), some (.int (msk c)), some (.int (msk l)), some (.int (nI i))]) (st' := [.ref 9, .int (nI i)]) (h' := h) (fun _ => rfl) ?_
  refine rt_gf rfl c9 rfl rfl ?_
  refine rt_cvE (v := some (.int (nI n))) (h' := h) rfl (by decide) c4 rfl rfl rfl rfl ?_ ?_
  · refine rt_k (k := 1) (pc' := 1) (L' := [some (.ref 4)]) (st' := [.ref 4]) (h' := h) (fun _ => rfl) ?_
    refine rt_gf rfl c4 rfl rfl ?_
    exact rt_r (v := some (.int (nI n))) rfl rfl ⟨rfl, rfl⟩
  refine rt_ige rfl (by omega) (by omega) (fun z => ?_) (fun z => ?_)
  ·
    have e : m = 0 := by omega
    subst e
    refine rt_k (k := 1) (pc' := 135) (L' := [some (.ref 9), some (.int (nI g)), some (.int (msk t)), some (.int (msk c)), some (.int (msk l)), some (.int (nI i))]) (st' := [.int (nI 0)]) (h' := h) (fun _ => rfl) ?_
    exact rt_r (v := some (.int (nI 0))) rfl rfl (Or.inl ⟨rfl, rfl, rfl⟩)
  obtain ⟨m, rfl⟩ : ∃ m', m = m' + 1 := ⟨m - 1, by omega⟩
  refine rt_k (k := 1) (pc' := 82) (L' := [some (.ref 9), some (.int (nI g)), some (.int (msk t)), some (.int (msk c)), some (.int (msk l)), some (.int (nI i))]) (st' := [.ref 9]) (h' := h) (fun _ => rfl) ?_
  refine rt_gf rfl c9 rfl rfl ?_
  refine rt_k (k := 1) (pc' := 86) (L' := [some (.ref 9), some (.int (nI g)), some (.int (msk t)), some (.int (msk c)), some (.int (msk l)), some (.int (nI i))]) (st' := [.int (nI g), .ref 10]) (h' := h) (fun _ => rfl) ?_
  refine rt_ialN rfl c10 rfl (by omega) (by decide) ((HM g hg).1) ?_
  refine rt_k (k := 1) (pc' := 89) (L' := [some (.ref 9), some (.int (nI g)), some (.int (msk t)), some (.int (msk c)), some (.int (msk l)), some (.int (nI i))]) (st' := [.int (msk l), .int (msk (mem g))]) (h' := h) (fun _ => rfl) ?_
  refine rt_mand rfl ?_
  refine rt_k (k := 1) (pc' := 92) (L' := [some (.ref 9), some (.int (nI g)), some (.int (msk t)), some (.int (msk c)), some (.int (msk l)), some (.int (nI i))]) (st' := [.int (nI i), .int (msk (fun ι => (mem g) ι ∧ l ι))]) (h' := h) (fun _ => rfl) ?_
  refine rt_cE rfl rfl (isin (by omega) (fun ι => mem g ι ∧ l ι)) ?_
  refine rt_pe rfl (fun zi => ?_) (fun zi => ?_)
  ·
    refine rt_inc (c := 1) rfl rfl ?_
    refine rt_k (k := 1) (pc' := 69) (L' := [some (.ref 9), some (.int (nI g)), some (.int (msk t)), some (.int (msk c)), some (.int (msk l)), some (.int (nI (i + 1)))]) (st' := []) (h' := h) (fun _ => rfl) ?_
    rw [chL, if_neg zi]
    exact so_ch1 C hg t c l f IH m (i + 1) (by omega)
  rw [chL, if_pos zi]
  refine rt_k (k := 3) (pc' := 101) (L' := [some (.ref 9), some (.int (nI g)), some (.int (msk t)), some (.int (msk c)), some (.int (msk l)), some (.int (nI i))]) (st' := [.int (nI 1), .int (nI g), .ref 9]) (h' := h) (fun _ => rfl) ?_
  refine rt_add rfl ?_
  refine rt_k (k := 3) (pc' := 106) (L' := [some (.ref 9), some (.int (nI g)), some (.int (msk t)), some (.int (msk c)), some (.int (msk l)), some (.int (nI i))]) (st' := [.int (nI i), .int (nI 1), .int (msk t), .int (nI (g + 1)), .ref 9]) (h' := h) (fun _ => rfl) ?_
  refine rt_mbit rfl (by omega) ?_
  refine rt_mor rfl ?_
  refine rt_k (k := 2) (pc' := 111) (L' := [some (.ref 9), some (.int (nI g)), some (.int (msk t)), some (.int (msk c)), some (.int (msk l)), some (.int (nI i))]) (st' := [.ref 9, .int (msk l), .int (msk (fun ι => t ι ∨ (ι = i))), .int (nI (g + 1)), .ref 9]) (h' := h) (fun _ => rfl) ?_
  refine rt_gf rfl c9 rfl rfl ?_
  refine rt_k (k := 1) (pc' := 116) (L' := [some (.ref 9), some (.int (nI g)), some (.int (msk t)), some (.int (msk c)), some (.int (msk l)), some (.int (nI i))]) (st' := [.int (nI i), .ref 12, .int (msk l), .int (msk (fun ι => t ι ∨ (ι = i))), .int (nI (g + 1)), .ref 9]) (h' := h) (fun _ => rfl) ?_
  refine rt_ialN rfl c12 rfl (by omega) (by decide) ((HR i z).1) ?_
  refine rt_k (k := 1) (pc' := 118) (L' := [some (.ref 9), some (.int (nI g)), some (.int (msk t)), some (.int (msk c)), some (.int (msk l)), some (.int (nI i))]) (st' := [.int (-1), .int (msk (riv i)), .int (msk l), .int (msk (fun ι => t ι ∨ (ι = i))), .int (nI (g + 1)), .ref 9]) (h' := h) (fun _ => rfl) ?_
  refine rt_mnot rfl ?_
  refine rt_mand rfl ?_
  refine rt_cv rfl (by decide) c9 rfl rfl rfl rfl (IH i z) ?_
  rintro _ h' (⟨q1, rfl, e9⟩ | ⟨r, q1, rfl, e9⟩)
  ·
    rw [q1, e9]
    refine rt_k (k := 1) (pc' := 128) (L' := [some (.ref 9), some (.int (nI g)), some (.int (msk t)), some (.int (msk c)), some (.int (msk l)), some (.int (nI i))]) (st' := []) (h' := h) (fun _ => rfl) ?_
    refine rt_inc (c := 1) rfl rfl ?_
    refine rt_k (k := 1) (pc' := 69) (L' := [some (.ref 9), some (.int (nI g)), some (.int (msk t)), some (.int (msk c)), some (.int (msk l)), some (.int (nI (i + 1)))]) (st' := []) (h' := h) (fun _ => rfl) ?_
    exact so_ch1 C hg t c l f IH m (i + 1) (by omega)
  rw [q1, e9]
  refine rt_k (k := 2) (pc' := 127) (L' := [some (.ref 9), some (.int (nI g)), some (.int (msk t)), some (.int (msk c)), some (.int (msk l)), some (.int (nI i))]) (st' := [.int 1]) (h' := _) (fun _ => rfl) ?_
  exact rt_r (v := some (.int 1)) rfl rfl (Or.inr ⟨r, rfl, rfl, rfl⟩)
termination_by m
theorem so_choose (C : sR h n G mem gn riv ned rg op li le so fo) : ∀ (k : Nat), k ≤ G → ∀ t c : Nat → Prop, rt_ X (k + d + 4) 86 0 [some (.ref 9), some (.int (nI (G - k))), some (.int (msk t)), some (.int (msk c)), none, none] [] h (chP h (sCe G rg op li le so) (cho n G mem riv ned rg k t c)) := by
  obtain ⟨M, N, R, E, nx, c9, c10, c11, c12, c13, c4, hG, hn, HM, HR⟩ := id C
  intro k
  induction k with
  | zero =>
    intro hk t c
    rw [cho]
    refine rt_k (k := 2) (pc' := 2) (L' := [some (.ref 9), some (.int (nI (G - 0))), some (.int (msk t)), some (.int (msk c)), none, none]) (st' := [.int (msk c), .ref 9]) (h' := h) (fun _ => rfl) ?_
    refine rt_cvE rfl (by decide) c9 rfl rfl rfl rfl (so_settled C c) ?_
    refine rt_k (k := 4) (pc' := 11) (L' := [some (.ref 9), some (.int (nI (G - 0))), some (.int (msk t)), some (.int (msk c)), some (.int (msk (stl n G mem riv ned rg c))), none]) (st' := [.int (-1), .int (msk (stl n G mem riv ned rg c)), .int (msk t)]) (h' := h) (fun _ => rfl) ?_
    refine rt_mnot rfl ?_
    refine rt_mand rfl ?_
    refine rt_mn rfl (fun z1 => ?_) (fun z1 => ?_)
    ·
      have b1 : chB G mem rg t (stl n G mem riv ned rg c) := Or.inl z1
      rw [if_pos b1]
      refine rt_k (k := 1) (pc' := 26) (L' := [some (.ref 9), some (.int (nI (G - 0))), some (.int (msk t)), some (.int (msk c)), some (.int (msk (stl n G mem riv ned rg c))), none]) (st' := [.int (nI 0)]) (h' := h) (fun _ => rfl) ?_
      exact rt_r (v := some (.int (nI 0))) rfl rfl (Or.inl ⟨rfl, rfl, rfl⟩)
    refine rt_k (k := 2) (pc' := 19) (L' := [some (.ref 9), some (.int (nI (G - 0))), some (.int (msk t)), some (.int (msk c)), some (.int (msk (stl n G mem riv ned rg c))), none]) (st' := [.int (msk (stl n G mem riv ned rg c)), .ref 9]) (h' := h) (fun _ => rfl) ?_
    refine rt_cvE rfl (by decide) c9 rfl rfl rfl rfl (so_meets C (stl n G mem riv ned rg c)) ?_
    refine rt_pn rfl (fun z2 => ?_) (fun z2 => ?_)
    rotate_left
    ·
      have b1 : chB G mem rg t (stl n G mem riv ned rg c) := Or.inr z2
      rw [if_pos b1]
      refine rt_k (k := 1) (pc' := 26) (L' := [some (.ref 9), some (.int (nI (G - 0))), some (.int (msk t)), some (.int (msk c)), some (.int (msk (stl n G mem riv ned rg c))), none]) (st' := [.int (nI 0)]) (h' := h) (fun _ => rfl) ?_
      exact rt_r (v := some (.int (nI 0))) rfl rfl (Or.inl ⟨rfl, rfl, rfl⟩)
    have b1 : ¬ chB G mem rg t (stl n G mem riv ned rg c) := fun w => w.elim (fun ⟨q, a, b⟩ => z1 q a b) (fun w => w z2)
    rw [if_neg b1]
    refine rt_k (k := 2) (pc' := 29) (L' := [some (.ref 9), some (.int (nI (G - 0))), some (.int (msk t)), some (.int (msk c)), some (.int (msk (stl n G mem riv ned rg c))), none]) (st' := [.ref 9, .int (nI (G - 0))]) (h' := h) (fun _ => rfl) ?_
    refine rt_gf rfl c9 rfl rfl ?_
    refine rt_ilt rfl (by omega) (by omega) (fun z => absurd z (by omega)) (fun _ => ?_)
    refine rt_k (k := 2) (pc' := 37) (L' := [some (.ref 9), some (.int (nI (G - 0))), some (.int (msk t)), some (.int (msk c)), some (.int (msk (stl n G mem riv ned rg c))), none]) (st' := [.int (msk t), .ref 9]) (h' := h) (fun _ => rfl) ?_
    refine rt_pf rfl c9 ⟨rfl, (show 12 < 13 by decide), rfl⟩ ?_
    have c_1 := hs_self (e' := .inr (5, [.ref 4, .ref 6, .ref 10, .ref 11, .int (nI G), .ref 12, .ref 13, .int (msk rg), .int (msk op), .int (tB li), .int (tB le), .int (tB so), .int (msk t)])) c9
    refine rt_k (k := 1) (pc' := 41) (L' := [some (.ref 9), some (.int (nI (G - 0))), some (.int (msk t)), some (.int (msk c)), some (.int (msk (stl n G mem riv ned rg c))), none]) (st' := [.int (nI 1)]) (h' := (h.set 9 (.inr (5, [.ref 4, .ref 6, .ref 10, .ref 11, .int (nI G), .ref 12, .ref 13, .int (msk rg), .int (msk op), .int (tB li), .int (tB le), .int (tB so), .int (msk t)])))) (fun _ => rfl) ?_
    exact rt_r (v := some (.int (nI 1))) rfl rfl (Or.inr ⟨t, rfl, rfl, rfl⟩)
  | succ k ih =>
    intro hk t c
    rw [show k + 1 + d + 4 = (k + d + 4) + 1 by omega]
    have hg : G - (k + 1) < G := by omega
    have eg : G - (k + 1) + 1 = G - k := by omega
    have ih' := ih (by omega)
    rw [← eg] at ih'
    generalize hgg : G - (k + 1) = g at ih' hg
    rw [cho, hgg]
    refine rt_k (k := 2) (pc' := 2) (L' := [some (.ref 9), some (.int (nI g)), some (.int (msk t)), some (.int (msk c)), none, none]) (st' := [.int (msk c), .ref 9]) (h' := h) (fun _ => rfl) ?_
    refine rt_cvE rfl (by decide) c9 rfl rfl rfl rfl (so_settled (d := k + d + 1) C c) ?_
    refine rt_k (k := 4) (pc' := 11) (L' := [some (.ref 9), some (.int (nI g)), some (.int (msk t)), some (.int (msk c)), some (.int (msk (stl n G mem riv ned rg c))), none]) (st' := [.int (-1), .int (msk (stl n G mem riv ned rg c)), .int (msk t)]) (h' := h) (fun _ => rfl) ?_
    refine rt_mnot rfl ?_
    refine rt_mand rfl ?_
    refine rt_mn rfl (fun z1 => ?_) (fun z1 => ?_)
    ·
      have b1 : chB G mem rg t (stl n G mem riv ned rg c) := Or.inl z1
      rw [if_pos b1]
      refine rt_k (k := 1) (pc' := 26) (L' := [some (.ref 9), some (.int (nI g)), some (.int (msk t)), some (.int (msk c)), some (.int (msk (stl n G mem riv ned rg c))), none]) (st' := [.int (nI 0)]) (h' := h) (fun _ => rfl) ?_
      exact rt_r (v := some (.int (nI 0))) rfl rfl (Or.inl ⟨rfl, rfl, rfl⟩)
    refine rt_k (k := 2) (pc' := 19) (L' := [some (.ref 9), some (.int (nI g)), some (.int (msk t)), some (.int (msk c)), some (.int (msk (stl n G mem riv ned rg c))), none]) (st' := [.int (msk (stl n G mem riv ned rg c)), .ref 9]) (h' := h) (fun _ => rfl) ?_
    refine rt_cvE rfl (by decide) c9 rfl rfl rfl rfl (so_meets (d := k + d + 3) C (stl n G mem riv ned rg c)) ?_
    refine rt_pn rfl (fun z2 => ?_) (fun z2 => ?_)
    rotate_left
    ·
      have b1 : chB G mem rg t (stl n G mem riv ned rg c) := Or.inr z2
      rw [if_pos b1]
      refine rt_k (k := 1) (pc' := 26) (L' := [some (.ref 9), some (.int (nI g)), some (.int (msk t)), some (.int (msk c)), some (.int (msk (stl n G mem riv ned rg c))), none]) (st' := [.int (nI 0)]) (h' := h) (fun _ => rfl) ?_
      exact rt_r (v := some (.int (nI 0))) rfl rfl (Or.inl ⟨rfl, rfl, rfl⟩)
    have b1 : ¬ chB G mem rg t (stl n G mem riv ned rg c) := fun w => w.elim (fun ⟨q, a, b⟩ => z1 q a b) (fun w => w z2)
    rw [if_neg b1]
    refine rt_k (k := 2) (pc' := 29) (L' := [some (.ref 9), some (.int (nI g)), some (.int (msk t)), some (.int (msk c)), some (.int (msk (stl n G mem riv ned rg c))), none]) (st' := [.ref 9, .int (nI g)]) (h' := h) (fun _ => rfl) ?_
    refine rt_gf rfl c9 rfl rfl ?_
    refine rt_ilt rfl (by omega) (by omega) (fun _ => ?_) (fun z => absurd z (by omega))
    refine rt_k (k := 3) (pc' := 45) (L' := [some (.ref 9), some (.int (nI g)), some (.int (msk t)), some (.int (msk c)), some (.int (msk (stl n G mem riv ned rg c))), none]) (st' := [.int (nI 1), .int (nI g), .ref 9]) (h' := h) (fun _ => rfl) ?_
    refine rt_add rfl ?_
    refine rt_k (k := 3) (pc' := 50) (L' := [some (.ref 9), some (.int (nI g)), some (.int (msk t)), some (.int (msk c)), some (.int (msk (stl n G mem riv ned rg c))), none]) (st' := [.ref 9, .int (msk (stl n G mem riv ned rg c)), .int (msk t), .int (nI (g + 1)), .ref 9]) (h' := h) (fun _ => rfl) ?_
    refine rt_gf rfl c9 rfl rfl ?_
    refine rt_k (k := 1) (pc' := 54) (L' := [some (.ref 9), some (.int (nI g)), some (.int (msk t)), some (.int (msk c)), some (.int (msk (stl n G mem riv ned rg c))), none]) (st' := [.int (nI g), .ref 10, .int (msk (stl n G mem riv ned rg c)), .int (msk t), .int (nI (g + 1)), .ref 9]) (h' := h) (fun _ => rfl) ?_
    refine rt_ialN rfl c10 rfl (by omega) (by decide) ((HM g hg).1) ?_
    refine rt_k (k := 1) (pc' := 56) (L' := [some (.ref 9), some (.int (nI g)), some (.int (msk t)), some (.int (msk c)), some (.int (msk (stl n G mem riv ned rg c))), none]) (st' := [.int (-1), .int (msk (mem g)), .int (msk (stl n G mem riv ned rg c)), .int (msk t), .int (nI (g + 1)), .ref 9]) (h' := h) (fun _ => rfl) ?_
    refine rt_mnot rfl ?_
    refine rt_mand rfl ?_
    refine rt_cv rfl (by decide) c9 rfl rfl rfl rfl (ih' t (fun q => stl n G mem riv ned rg c q ∧ ¬ mem g q)) ?_
    rintro _ h' (⟨q1, rfl, e9⟩ | ⟨r, q1, rfl, e9⟩)
    ·
      rw [q1, e9]
      refine rt_k (k := 3) (pc' := 69) (L' := [some (.ref 9), some (.int (nI g)), some (.int (msk t)), some (.int (msk c)), some (.int (msk (stl n G mem riv ned rg c))), some (.int (nI 0))]) (st' := []) (h' := _) (fun _ => rfl) ?_
      exact so_ch1 C hg t c (stl n G mem riv ned rg c) (fun p => cho n G mem riv ned rg k (fun q => t q ∨ q = p) (fun q => stl n G mem riv ned rg c q ∧ ¬ riv p q)) (fun p _ => ih' _ _) n 0 (by omega)
    rw [q1, e9]
    refine rt_k (k := 2) (pc' := 65) (L' := [some (.ref 9), some (.int (nI g)), some (.int (msk t)), some (.int (msk c)), some (.int (msk (stl n G mem riv ned rg c))), none]) (st' := [.int 1]) (h' := _) (fun _ => rfl) ?_
    exact rt_r (v := some (.int 1)) rfl rfl (Or.inr ⟨r, rfl, rfl, rfl⟩)
end SO3

