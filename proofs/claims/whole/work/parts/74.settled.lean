/-! THE SOLVER, 2: what is reached, what is settled, what is valid. -/
section SO2
variable {X : Nat × (Nat → Int32)} {d : Nat} {h : List va_E} {Q : Option Value → List va_E → Prop} {n G : Nat} {mem : Nat → Nat → Prop} {gn : Nat → Int64} {riv ned : Nat → Nat → Prop} {rg op : Nat → Prop} {li le so : Prop} {fo : Nat → Prop}
def rGr (n G : Nat) (mem ned : Nat → Nat → Prop) (rg c : Nat → Prop) : Nat → Nat → Prop
  | 0 => rg
  | k + 1 => fun g => rGr n G mem ned rg c k g ∨ ∃ p, p < n ∧ (c p ∧ mOf G mem (rGr n G mem ned rg c k) p) ∧ ned p g
def rAl (n G : Nat) (mem ned : Nat → Nat → Prop) (rg c : Nat → Prop) (k : Nat) : Nat → Prop := fun q => c q ∧ mOf G mem (rGr n G mem ned rg c k) q
def bAl (n G : Nat) (mem ned : Nat → Nat → Prop) (rg c : Nat → Prop) : Nat → Nat → Prop
  | 0 => fun _ => False
  | k + 1 => rAl n G mem ned rg c k
noncomputable def rcF (n G : Nat) (mem ned : Nat → Nat → Prop) (rg c : Nat → Prop) : Nat → Nat → Nat → Prop
  | 0, k => bAl n G mem ned rg c k
  | f + 1, k => @ite (Nat → Prop) (∀ q, q < 32 → (rAl n G mem ned rg c k q ↔ bAl n G mem ned rg c k q)) (Classical.propDecidable _) (rAl n G mem ned rg c k) (rcF n G mem ned rg c f (k + 1))
noncomputable def rch (n G : Nat) (mem ned : Nat → Nat → Prop) (rg c : Nat → Prop) : Nat → Prop := rcF n G mem ned rg c (G + 1) 0
theorem mOf_cg {S T : Nat → Prop} (hG : G ≤ 8) (e : ∀ g, g < 32 → (S g ↔ T g)) (q : Nat) : mOf G mem S q ↔ mOf G mem T q :=
  ⟨fun ⟨g, a, b, x⟩ => ⟨g, a, (e g (by omega)).mp b, x⟩, fun ⟨g, a, b, x⟩ => ⟨g, a, (e g (by omega)).mpr b, x⟩⟩
theorem so_rp1 (C : sR h n G mem gn riv ned rg op li le so fo) (c all B : Nat → Prop) (k : Nat) (b : Nat → Prop) (i : Nat) (hi : i ≤ n) (acc : Nat → Prop) (ha : ∀ g, g < 32 → (acc g ↔ B g ∨ ∃ p, p < i ∧ all p ∧ ned p g)) (kk : ∀ (acc : Nat → Prop) x, (∀ g, g < 32 → (acc g ↔ B g ∨ ∃ p, p < n ∧ all p ∧ ned p g)) → rt_ X (d + 2) 90 78 [some (.ref 9), some (.int (msk c)), some (.int (msk acc)), some (.int (msk all)), some (.int (nI k)), some (.int (msk b)), x] [] h Q) : rt_ X (d + 2) 90 41 [some (.ref 9), some (.int (msk c)), some (.int (msk acc)), some (.int (msk all)), some (.int (nI k)), some (.int (msk b)), some (.int (nI i))] [] h Q := by
  obtain ⟨M, N, R, E, nx, c9, c10, c11, c12, c13, c4, hG, hn, HM, HR⟩ := id C
  refine rt_k (k := 2) (pc' := 44) (L' := [some (.ref 9), some (.int (msk c)), some (.int (msk acc)), some (.int (msk all)), some (.int (nI k)), some (.int (msk b)), some (.int (nI i))]) (st' := [.ref 9, .int (nI i)]) (h' := h) (fun _ => rfl) ?_
  refine rt_gf rfl c9 rfl rfl ?_
  refine rt_cvE (v := some (.int (nI n))) (h' := h) rfl (by decide) c4 rfl rfl rfl rfl ?_ ?_
  · refine rt_k (k := 1) (pc' := 1) (L' := [some (.ref 4)]) (st' := [.ref 4]) (h' := h) (fun _ => rfl) ?_
    refine rt_gf rfl c4 rfl rfl ?_
    exact rt_r (v := some (.int (nI n))) rfl rfl ⟨rfl, rfl⟩
  refine rt_ige rfl (by omega) (by omega) (fun z => ?_) (fun z => ?_)
  ·
    have e : i = n := by omega
    subst e
    exact kk acc _ ha
  refine rt_k (k := 2) (pc' := 56) (L' := [some (.ref 9), some (.int (msk c)), some (.int (msk acc)), some (.int (msk all)), some (.int (nI k)), some (.int (msk b)), some (.int (nI i))]) (st' := [.int (nI i), .int (msk all)]) (h' := h) (fun _ => rfl) ?_
  refine rt_cE rfl rfl (isin (by omega) all) ?_
  refine rt_pe rfl (fun zi => ?_) (fun zi => ?_)
  ·
    refine rt_inc (c := 1) rfl rfl ?_
    refine rt_k (k := 1) (pc' := 41) (L' := [some (.ref 9), some (.int (msk c)), some (.int (msk acc)), some (.int (msk all)), some (.int (nI k)), some (.int (msk b)), some (.int (nI (i + 1)))]) (st' := []) (h' := h) (fun _ => rfl) ?_
    refine so_rp1 C c all B k b (i + 1) z acc (fun g hg => (ha g hg).trans ⟨fun w => w.imp id (fun ⟨p, a, x⟩ => ⟨p, by omega, x⟩), fun w => w.imp id (fun ⟨p, a, x⟩ => ⟨p, ?_, x⟩)⟩) kk
    by_cases e : p = i
    · subst e; exact absurd x.1 zi
    · omega
  refine rt_k (k := 2) (pc' := 64) (L' := [some (.ref 9), some (.int (msk c)), some (.int (msk acc)), some (.int (msk all)), some (.int (nI k)), some (.int (msk b)), some (.int (nI i))]) (st' := [.ref 9, .int (msk acc)]) (h' := h) (fun _ => rfl) ?_
  refine rt_gf rfl c9 rfl rfl ?_
  refine rt_k (k := 1) (pc' := 69) (L' := [some (.ref 9), some (.int (msk c)), some (.int (msk acc)), some (.int (msk all)), some (.int (nI k)), some (.int (msk b)), some (.int (nI i))]) (st' := [.int (nI i), .ref 13, .int (msk acc)]) (h' := h) (fun _ => rfl) ?_
  refine rt_ialN rfl c13 rfl (by omega) (by decide) ((HR i z).2) ?_
  refine rt_mor rfl ?_
  refine rt_k (k := 1) (pc' := 72) (L' := [some (.ref 9), some (.int (msk c)), some (.int (msk (fun ι => acc ι ∨ (ned i) ι))), some (.int (msk all)), some (.int (nI k)), some (.int (msk b)), some (.int (nI i))]) (st' := []) (h' := h) (fun _ => rfl) ?_
  refine rt_inc (c := 1) rfl rfl ?_
  refine rt_k (k := 1) (pc' := 41) (L' := [some (.ref 9), some (.int (msk c)), some (.int (msk (fun ι => acc ι ∨ (ned i) ι))), some (.int (msk all)), some (.int (nI k)), some (.int (msk b)), some (.int (nI (i + 1)))]) (st' := []) (h' := h) (fun _ => rfl) ?_
  refine so_rp1 C c all B k b (i + 1) z _ (fun g hg => ⟨?_, ?_⟩) kk
  · rintro (w | w)
    · rcases (ha g hg).mp w with w | ⟨p, a, x⟩
      · exact Or.inl w
      · exact Or.inr ⟨p, by omega, x⟩
    · exact Or.inr ⟨i, by omega, zi, w⟩
  · rintro (w | ⟨p, a, x⟩)
    · exact Or.inl ((ha g hg).mpr (Or.inl w))
    · by_cases e : p = i
      · subst e; exact Or.inr x.2
      · exact Or.inl ((ha g hg).mpr (Or.inr ⟨p, by omega, x⟩))
termination_by n - i
theorem so_re1 (C : sR h n G mem gn riv ned rg op li le so fo) (c : Nat → Prop) (f k : Nat) (hf : k + f = G + 1) (acc all : Nat → Prop) (ha : ∀ g, g < 32 → (acc g ↔ rGr n G mem ned rg c k g)) (hb : ∀ q, q < 32 → (all q ↔ bAl n G mem ned rg c k q)) (x y : Option Value) : rt_ X (d + 2) 90 10 [some (.ref 9), some (.int (msk c)), some (.int (msk acc)), some (.int (msk all)), some (.int (nI k)), x, y] [] h (fun v h' => v = some (.int (msk (rcF n G mem ned rg c f k))) ∧ h' = h) := by
  obtain ⟨M, N, R, E, nx, c9, c10, c11, c12, c13, c4, hG, hn, HM, HR⟩ := id C
  refine rt_k (k := 2) (pc' := 13) (L' := [some (.ref 9), some (.int (msk c)), some (.int (msk acc)), some (.int (msk all)), some (.int (nI k)), x, y]) (st' := [.ref 9, .int (nI k)]) (h' := h) (fun _ => rfl) ?_
  refine rt_gf rfl c9 rfl rfl ?_
  refine rt_igt rfl (by omega) (by omega) (fun z => ?_) (fun z => ?_)
  · refine rt_n rfl ?_
    have e : f = 0 := by omega
    subst e
    exact rt_r (v := some (.int (msk all))) rfl rfl ⟨mk_r hb, rfl⟩
  obtain ⟨f, rfl⟩ : ∃ f', f = f' + 1 := ⟨f - 1, by omega⟩
  refine rt_k (k := 2) (pc' := 22) (L' := [some (.ref 9), some (.int (msk c)), some (.int (msk acc)), some (.int (msk all)), some (.int (nI k)), some (.int (msk all)), y]) (st' := []) (h' := h) (fun _ => rfl) ?_
  refine rt_k (k := 3) (pc' := 25) (L' := [some (.ref 9), some (.int (msk c)), some (.int (msk acc)), some (.int (msk all)), some (.int (nI k)), some (.int (msk all)), y]) (st' := [.int (msk acc), .ref 9, .int (msk c)]) (h' := h) (fun _ => rfl) ?_
  refine rt_cvE rfl (by decide) c9 rfl rfl rfl rfl (so_membersOf C acc) ?_
  refine rt_mand rfl ?_
  have ea : ∀ q, q < 32 → ((c q ∧ mOf G mem acc q) ↔ rAl n G mem ned rg c k q) := fun q hq => and_congr Iff.rfl (mOf_cg hG ha q)
  refine rt_k (k := 3) (pc' := 33) (L' := [some (.ref 9), some (.int (msk c)), some (.int (msk acc)), some (.int (msk (fun i => c i ∧ mOf G mem acc i))), some (.int (nI k)), some (.int (msk all)), y]) (st' := [.int (msk all), .int (msk (fun i => c i ∧ mOf G mem acc i))]) (h' := h) (fun _ => rfl) ?_
  refine rt_mjne rfl (fun z2 => ?_) (fun z2 => ?_)
  · refine rt_k (k := 2) (pc' := 41) (L' := [some (.ref 9), some (.int (msk c)), some (.int (msk acc)), some (.int (msk (fun i => c i ∧ mOf G mem acc i))), some (.int (nI k)), some (.int (msk all)), some (.int (nI 0))]) (st' := []) (h' := h) (fun _ => rfl) ?_
    refine so_rp1 C c _ acc k _ 0 (Nat.zero_le _) acc (fun g hg => ⟨Or.inl, fun w => w.elim id (fun ⟨p, a, _⟩ => absurd a (Nat.not_lt_zero _))⟩) (fun acc' x' ha' => ?_)
    refine rt_inc (c := 1) rfl rfl ?_
    refine rt_n rfl ?_
    have e : rcF n G mem ned rg c (f + 1) k = rcF n G mem ned rg c f (k + 1) := by
      rw [rcF, if_neg]
      exact fun w => z2 (fun q hq => (ea q hq).trans ((w q hq).trans (hb q hq).symm))
    rw [e]
    refine so_re1 C c f (k + 1) (by omega) acc' _ (fun g hg => (ha' g hg).trans (or_congr (ha g hg) ?_)) ea _ _
    exact ⟨fun ⟨p, a, x, y⟩ => ⟨p, a, (ea p (by omega)).mp x, y⟩, fun ⟨p, a, x, y⟩ => ⟨p, a, (ea p (by omega)).mpr x, y⟩⟩
  · refine rt_n rfl ?_
    have e : rcF n G mem ned rg c (f + 1) k = rAl n G mem ned rg c k := by
      rw [rcF, if_pos]
      exact fun q hq => (ea q hq).symm.trans ((z2 q hq).trans (hb q hq))
    rw [e]
    exact rt_r (v := some (.int (msk _))) rfl rfl ⟨mk_r ea, rfl⟩
termination_by f
theorem so_reached (C : sR h n G mem gn riv ned rg op li le so fo) (c : Nat → Prop) : rt_ X (d + 2) 90 0 [some (.ref 9), some (.int (msk c)), none, none, none, none, none] [] h (fun v h' => v = some (.int (msk (rch n G mem ned rg c))) ∧ h' = h) := by
  obtain ⟨M, N, R, E, nx, c9, c10, c11, c12, c13, c4, hG, hn, HM, HR⟩ := id C
  refine rt_k (k := 1) (pc' := 1) (L' := [some (.ref 9), some (.int (msk c)), none, none, none, none, none]) (st' := [.ref 9]) (h' := h) (fun _ => rfl) ?_
  refine rt_gf rfl c9 rfl rfl ?_
  refine rt_k (k := 5) (pc' := 10) (L' := [some (.ref 9), some (.int (msk c)), some (.int (msk rg)), some (.int (msk (fun _ => False))), some (.int (nI 0)), none, none]) (st' := []) (h' := h) (fun _ => by rw [msk_0]; rfl) ?_
  exact so_re1 C c (G + 1) 0 (by omega) rg _ (fun _ _ => Iff.rfl) (fun _ _ => Iff.rfl) _ _
/-- settled, with so many rounds -/
noncomputable def stF (n G : Nat) (mem riv ned : Nat → Nat → Prop) (rg : Nat → Prop) : Nat → (Nat → Prop) → Nat → Prop
  | 0, l => l
  | f + 1, l => @ite (Nat → Prop) (∀ q, q < 32 → (rch n G mem ned rg (wnm G mem riv ned l n) q ↔ l q)) (Classical.propDecidable _) l (stF n G mem riv ned rg f (rch n G mem ned rg (wnm G mem riv ned l n)))
noncomputable def stl (n G : Nat) (mem riv ned : Nat → Nat → Prop) (rg l : Nat → Prop) : Nat → Prop := stF n G mem riv ned rg 33 l
theorem so_st1 (C : sR h n G mem gn riv ned rg op li le so fo) (c : Nat → Prop) (f k : Nat) (hf : k + f = 33) (l : Nat → Prop) (x : Option Value) : rt_ X (d + 3) 87 4 [some (.ref 9), some (.int (msk c)), some (.int (msk l)), some (.int (nI k)), x] [] h (fun v h' => v = some (.int (msk (stF n G mem riv ned rg f l))) ∧ h' = h) := by
  obtain ⟨M, N, R, E, nx, c9, c10, c11, c12, c13, c4, hG, hn, HM, HR⟩ := id C
  refine rt_k (k := 2) (pc' := 7) (L' := [some (.ref 9), some (.int (msk c)), some (.int (msk l)), some (.int (nI k)), x]) (st' := [.int (nI 32), .int (nI k)]) (h' := h) (fun _ => rfl) ?_
  refine rt_igt rfl (by omega) (by decide) (fun z => ?_) (fun z => ?_)
  · refine rt_n rfl ?_
    have e : f = 0 := by omega
    subst e
    exact rt_r (v := some (.int (msk l))) rfl rfl ⟨rfl, rfl⟩
  obtain ⟨f, rfl⟩ : ∃ f', f = f' + 1 := ⟨f - 1, by omega⟩
  refine rt_k (k := 3) (pc' := 13) (L' := [some (.ref 9), some (.int (msk c)), some (.int (msk l)), some (.int (nI k)), x]) (st' := [.int (msk l), .ref 9, .ref 9]) (h' := h) (fun _ => rfl) ?_
  refine rt_cvE rfl (by decide) c9 rfl rfl rfl rfl (so_withNeeds C l) ?_
  refine rt_cvE rfl (by decide) c9 rfl rfl rfl rfl (so_reached C _) ?_
  refine rt_k (k := 3) (pc' := 24) (L' := [some (.ref 9), some (.int (msk c)), some (.int (msk l)), some (.int (nI k)), some (.int (msk (rch n G mem ned rg (wnm G mem riv ned l n))))]) (st' := [.int (msk l), .int (msk (rch n G mem ned rg (wnm G mem riv ned l n)))]) (h' := h) (fun _ => rfl) ?_
  refine rt_mjne rfl (fun z2 => ?_) (fun z2 => ?_)
  · rw [stF, if_neg z2]
    refine rt_k (k := 2) (pc' := 32) (L' := [some (.ref 9), some (.int (msk c)), some (.int (msk (rch n G mem ned rg (wnm G mem riv ned l n)))), some (.int (nI k)), some (.int (msk (rch n G mem ned rg (wnm G mem riv ned l n))))]) (st' := []) (h' := h) (fun _ => rfl) ?_
    refine rt_inc (c := 1) rfl rfl ?_
    refine rt_n rfl ?_
    exact so_st1 C c f (k + 1) (by omega) _ _
  · rw [stF, if_pos z2]
    refine rt_n rfl ?_
    exact rt_r (v := some (.int (msk l))) rfl rfl ⟨rfl, rfl⟩
termination_by f
theorem so_settled (C : sR h n G mem gn riv ned rg op li le so fo) (c : Nat → Prop) : rt_ X (d + 3) 87 0 [some (.ref 9), some (.int (msk c)), none, none, none] [] h (fun v h' => v = some (.int (msk (stl n G mem riv ned rg c))) ∧ h' = h) := by
  refine rt_k (k := 4) (pc' := 4) (L' := [some (.ref 9), some (.int (msk c)), some (.int (msk c)), some (.int (nI 0)), none]) (st' := []) (h' := h) (fun _ => rfl) ?_
  exact so_st1 C c 33 0 rfl c _
/-- a set is valid, as the solver learnt it -/
def isV (n G : Nat) (mem riv ned : Nat → Nat → Prop) (rg op : Nat → Prop) (li : Prop) (s : Nat → Prop) : Prop := li ∧ (∀ q, q < 32 → s q → op q) ∧ (∀ p, p < n → s p → ∀ q, q < 32 → ¬ (riv p q ∧ s q)) ∧ (∀ q, q < 32 → (stl n G mem riv ned rg s q ↔ s q)) ∧ mRt G mem rg s
theorem so_iv1 (C : sR h n G mem gn riv ned rg op li le so fo) (s : Nat → Prop) (h1 : li) (h2 : ∀ q, q < 32 → s q → op q) (i : Nat) (hi : i ≤ n) (H : ∀ p, p < i → s p → ∀ q, q < 32 → ¬ (riv p q ∧ s q)) : rt_ X (d + 4) 97 22 [some (.ref 9), some (.int (msk s)), some (.int (nI i))] [] h (fun v h' => v = some (.int (tB (isV n G mem riv ned rg op li s))) ∧ h' = h) := by
  obtain ⟨M, N, R, E, nx, c9, c10, c11, c12, c13, c4, hG, hn, HM, HR⟩ := id C
  refine rt_k (k := 2) (pc' := 24) (L' := [some (.ref 9), some (.int (msk s)), some (.int (nI i))]) (st' := [.ref 9, .int (nI i)]) (h' := h) (fun _ => rfl) ?_
  refine rt_gf rfl c9 rfl rfl ?_
  refine rt_cvE (v := some (.int (nI n))) (h' := h) rfl (by decide) c4 rfl rfl rfl rfl ?_ ?_
  · refine rt_k (k := 1) (pc' := 1) (L' := [some (.ref 4)]) (st' := [.ref 4]) (h' := h) (fun _ => rfl) ?_
    refine rt_gf rfl c4 rfl rfl ?_
    exact rt_r (v := some (.int (nI n))) rfl rfl ⟨rfl, rfl⟩
  refine rt_ige rfl (by omega) (by omega) (fun z => ?_) (fun z => ?_)
  ·
    refine rt_k (k := 2) (pc' := 62) (L' := [some (.ref 9), some (.int (msk s)), some (.int (nI i))]) (st' := [.int (msk s), .ref 9]) (h' := h) (fun _ => rfl) ?_
    refine rt_cvE rfl (by decide) c9 rfl rfl rfl rfl (so_settled C s) ?_
    refine rt_k (k := 1) (pc' := 66) (L' := [some (.ref 9), some (.int (msk s)), some (.int (nI i))]) (st' := [.int (msk s), .int (msk (stl n G mem riv ned rg s))]) (h' := h) (fun _ => rfl) ?_
    refine rt_mjne rfl (fun z2 => ?_) (fun z2 => ?_)
    ·
      refine rt_k (k := 1) (pc' := 82) (L' := [some (.ref 9), some (.int (msk s)), some (.int (nI i))]) (st' := [.int (nI 0)]) (h' := h) (fun _ => rfl) ?_
      exact rt_r (v := some (.int (nI 0))) rfl rfl (⟨ret0 (fun w => z2 w.2.2.2.1), rfl⟩)
    refine rt_k (k := 2) (pc' := 71) (L' := [some (.ref 9), some (.int (msk s)), some (.int (nI i))]) (st' := [.int (msk s), .ref 9]) (h' := h) (fun _ => rfl) ?_
    refine rt_cvE rfl (by decide) c9 rfl rfl rfl rfl (so_meets C s) ?_
    refine rt_pe rfl (fun z3 => ?_) (fun z3 => ?_)
    ·
      refine rt_k (k := 1) (pc' := 82) (L' := [some (.ref 9), some (.int (msk s)), some (.int (nI i))]) (st' := [.int (nI 0)]) (h' := h) (fun _ => rfl) ?_
      exact rt_r (v := some (.int (nI 0))) rfl rfl (⟨ret0 (fun w => z3 w.2.2.2.2), rfl⟩)
    refine rt_k (k := 2) (pc' := 82) (L' := [some (.ref 9), some (.int (msk s)), some (.int (nI i))]) (st' := [.int (nI 1)]) (h' := h) (fun _ => rfl) ?_
    exact rt_r (v := some (.int (nI 1))) rfl rfl (⟨ret1 ⟨h1, h2, fun p hp => H p (by omega), z2, z3⟩, rfl⟩)
  refine rt_k (k := 2) (pc' := 35) (L' := [some (.ref 9), some (.int (msk s)), some (.int (nI i))]) (st' := [.int (nI i), .int (msk s)]) (h' := h) (fun _ => rfl) ?_
  refine rt_cE rfl rfl (isin (by omega) s) ?_
  refine rt_pe rfl (fun zi => ?_) (fun zi => ?_)
  ·
    refine rt_inc (c := 1) rfl rfl ?_
    refine rt_k (k := 1) (pc' := 22) (L' := [some (.ref 9), some (.int (msk s)), some (.int (nI (i + 1)))]) (st' := []) (h' := h) (fun _ => rfl) ?_
    exact so_iv1 C s h1 h2 (i + 1) z (fun p hp hs => by
      by_cases e : p = i
      · subst e; exact absurd hs zi
      · exact H p (by omega) hs)
  refine rt_k (k := 1) (pc' := 42) (L' := [some (.ref 9), some (.int (msk s)), some (.int (nI i))]) (st' := [.ref 9]) (h' := h) (fun _ => rfl) ?_
  refine rt_gf rfl c9 rfl rfl ?_
  refine rt_k (k := 1) (pc' := 46) (L' := [some (.ref 9), some (.int (msk s)), some (.int (nI i))]) (st' := [.int (nI i), .ref 12]) (h' := h) (fun _ => rfl) ?_
  refine rt_ialN rfl c12 rfl (by omega) (by decide) ((HR i z).1) ?_
  refine rt_k (k := 1) (pc' := 48) (L' := [some (.ref 9), some (.int (msk s)), some (.int (nI i))]) (st' := [.int (msk s), .int (msk (riv i))]) (h' := h) (fun _ => rfl) ?_
  refine rt_mand rfl ?_
  refine rt_me rfl (fun zr => ?_) (fun zr => ?_)
  rotate_left
  ·
    refine rt_k (k := 1) (pc' := 53) (L' := [some (.ref 9), some (.int (msk s)), some (.int (nI i))]) (st' := [.int (nI 0)]) (h' := h) (fun _ => rfl) ?_
    exact rt_r (v := some (.int (nI 0))) rfl rfl (⟨ret0 (fun w => by obtain ⟨q, q1, q2⟩ := zr; exact w.2.2.1 i z zi q q1 q2), rfl⟩)
  refine rt_inc (c := 1) rfl rfl ?_
  refine rt_k (k := 1) (pc' := 22) (L' := [some (.ref 9), some (.int (msk s)), some (.int (nI (i + 1)))]) (st' := []) (h' := h) (fun _ => rfl) ?_
  exact so_iv1 C s h1 h2 (i + 1) z (fun p hp hs => by
    by_cases e : p = i
    · subst e; exact zr
    · exact H p (by omega) hs)
termination_by n - i
theorem so_isValid (C : sR h n G mem gn riv ned rg op li le so fo) (s : Nat → Prop) : rt_ X (d + 4) 97 0 [some (.ref 9), some (.int (msk s)), none] [] h (fun v h' => v = some (.int (tB (isV n G mem riv ned rg op li s))) ∧ h' = h) := by
  obtain ⟨M, N, R, E, nx, c9, c10, c11, c12, c13, c4, hG, hn, HM, HR⟩ := id C
  refine rt_k (k := 1) (pc' := 1) (L' := [some (.ref 9), some (.int (msk s)), none]) (st' := [.ref 9]) (h' := h) (fun _ => rfl) ?_
  refine rt_gf rfl c9 rfl rfl ?_
  refine rt_pe rfl (fun z1 => ?_) (fun z1 => ?_)
  ·
    refine rt_k (k := 1) (pc' := 19) (L' := [some (.ref 9), some (.int (msk s)), none]) (st' := [.int (nI 0)]) (h' := h) (fun _ => rfl) ?_
    exact rt_r (v := some (.int (nI 0))) rfl rfl (⟨ret0 (fun w => z1 w.1), rfl⟩)
  refine rt_k (k := 2) (pc' := 9) (L' := [some (.ref 9), some (.int (msk s)), none]) (st' := [.ref 9, .int (msk s)]) (h' := h) (fun _ => rfl) ?_
  refine rt_gf rfl c9 rfl rfl ?_
  refine rt_k (k := 1) (pc' := 13) (L' := [some (.ref 9), some (.int (msk s)), none]) (st' := [.int (-1), .int (msk op), .int (msk s)]) (h' := h) (fun _ => rfl) ?_
  refine rt_mnot rfl ?_
  refine rt_mand rfl ?_
  refine rt_me rfl (fun z2 => ?_) (fun z2 => ?_)
  rotate_left
  ·
    refine rt_k (k := 1) (pc' := 19) (L' := [some (.ref 9), some (.int (msk s)), none]) (st' := [.int (nI 0)]) (h' := h) (fun _ => rfl) ?_
    exact rt_r (v := some (.int (nI 0))) rfl rfl (⟨ret0 (fun w => by obtain ⟨q, q1, q2, q3⟩ := z2; exact q3 (w.2.1 q q1 q2)), rfl⟩)
  refine rt_k (k := 2) (pc' := 22) (L' := [some (.ref 9), some (.int (msk s)), some (.int (nI 0))]) (st' := []) (h' := h) (fun _ => rfl) ?_
  exact so_iv1 C s z1 (fun q hq hs => Classical.byContradiction fun w => z2 q hq ⟨hs, w⟩) 0 (Nat.zero_le _) (fun p hp => absurd hp (Nat.not_lt_zero _))
end SO2

