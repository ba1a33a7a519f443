/-! THE SOLVER, 4: groups by name, what of a group is in a range, rivals. -/
section SO4
variable {X : Nat × (Nat → Int32)} {d : Nat} {h : List va_E} {Q : Option Value → List va_E → Prop} {n G : Nat} {mem : Nat → Nat → Prop} {gn : Nat → Int64} {riv ned : Nat → Nat → Prop} {rg op : Nat → Prop} {li le so : Prop} {fo : Nat → Prop}
/-- the first group of this name -/
def FG (G : Nat) (gn : Nat → Int64) (x : Int64) (g : Nat) : Prop := g < G ∧ gn g = x ∧ ∀ j, j < g → ¬ gn j = x
def gOf (G : Nat) (gn : Nat → Int64) (x : Int64) (v : Option Value) : Prop := (∃ g, FG G gn x g ∧ v = some (.int (nI g))) ∨ ((∀ g, g < G → ¬ gn g = x) ∧ v = some (.int (-1)))
theorem so_go1 (C : sR h n G mem gn riv ned rg op li le so fo) (x : Int64) (i : Nat) (hi : i ≤ G) (H : ∀ j, j < i → ¬ gn j = x) : rt_ X d 78 2 [some (.ref 9), some (.long x), none, some (.int (nI i))] [] h (fun v h' => h' = h ∧ gOf G gn x v) := by
  obtain ⟨M, N, R, E, nx, c9, c10, c11, c12, c13, c4, hG, hn, HM, HR⟩ := id C
  refine rt_k (k := 2) (pc' := 4) (L' := [some (.ref 9), some (.long x), none, some (.int (nI i))]) (st' := [.ref 9, .int (nI i)]) (h' := h) (fun _ => rfl) ?_
  refine rt_gf rfl c9 rfl rfl ?_
  refine rt_ige rfl (by omega) (by omega) (fun z => ?_) (fun z => ?_)
  ·
    refine rt_k (k := 1) (pc' := 30) (L' := [some (.ref 9), some (.long x), none, some (.int (nI i))]) (st' := [.int (-1)]) (h' := h) (fun _ => rfl) ?_
    exact rt_r (v := some (.int (-1))) rfl rfl (⟨rfl, Or.inr ⟨fun g hg => H g (by omega), rfl⟩⟩)
  refine rt_k (k := 1) (pc' := 11) (L' := [some (.ref 9), some (.long x), none, some (.int (nI i))]) (st' := [.ref 9]) (h' := h) (fun _ => rfl) ?_
  refine rt_gf rfl c9 rfl rfl ?_
  refine rt_k (k := 1) (pc' := 15) (L' := [some (.ref 9), some (.long x), none, some (.int (nI i))]) (st' := [.int (nI i), .ref 11]) (h' := h) (fun _ => rfl) ?_
  refine rt_lalN rfl c11 rfl (by omega) (by decide) ((HM i z).2) ?_
  refine rt_k (k := 2) (pc' := 18) (L' := [some (.ref 9), some (.long x), none, some (.int (nI i))]) (st' := [.int (lg_cmp (gn i) x)]) (h' := h) (fun _ => rfl) ?_
  refine rt_ln rfl (fun z2 => ?_) (fun z2 => ?_)
  rotate_left
  ·
    refine rt_k (k := 1) (pc' := 22) (L' := [some (.ref 9), some (.long x), none, some (.int (nI i))]) (st' := [.int (nI i)]) (h' := h) (fun _ => rfl) ?_
    exact rt_r (v := some (.int (nI i))) rfl rfl (⟨rfl, Or.inl ⟨i, ⟨z, z2, H⟩, rfl⟩⟩)
  refine rt_inc (c := 1) rfl rfl ?_
  refine rt_k (k := 1) (pc' := 2) (L' := [some (.ref 9), some (.long x), none, some (.int (nI (i + 1)))]) (st' := []) (h' := h) (fun _ => rfl) ?_
  exact so_go1 C x (i + 1) z (fun j hj => by
    by_cases e : j = i
    · subst e; exact z2
    · exact H j (by omega))
termination_by G - i
theorem so_groupOf (C : sR h n G mem gn riv ned rg op li le so fo) (x : Int64) : rt_ X d 78 0 [some (.ref 9), some (.long x), none, none] [] h (fun v h' => h' = h ∧ gOf G gn x v) := by
  refine rt_k (k := 2) (pc' := 2) (L' := [some (.ref 9), some (.long x), none, some (.int (nI 0))]) (st' := []) (h' := h) (fun _ => rfl) ?_
  exact so_go1 C x 0 (Nat.zero_le _) (fun j hj => absurd hj (Nat.not_lt_zero _))
/-- those of a group that are in a range -/
def irS (I : List kL) (mem : Nat → Nat → Prop) (g : Nat) (R : kR) (p : Nat) : Prop := ∃ r, I[p]? = some r ∧ mem g p ∧ rP (lVe r) R
theorem so_ir1 {I : List kL} {nx g ra : Nat} {R : kR} (CI : cI h I nx) (C : sR h I.length G mem gn riv ned rg op li le so fo) (hR : zR h ra R) (hg : g < G) (i : Nat) (hi : i ≤ I.length) (acc : Nat → Prop) (ha : ∀ p, p < 32 → (acc p ↔ p < i ∧ irS I mem g R p)) : rt_ X (d + 3) 80 5 [some (.ref 9), some (.int (nI g)), some (.ref ra), some (.int (msk acc)), some (.int (nI i))] [] h (fun v h' => v = some (.int (msk (irS I mem g R))) ∧ h' = h) := by
  obtain ⟨F, d4, d5, -, -, HI⟩ := id CI
  obtain ⟨M, N, Rv, E, nx', c9, c10, c11, c12, c13, c4, hG, hn, HM, HR⟩ := id C
  obtain ⟨tt, sz, F', S', ⟨-, cr⟩, -⟩ := id hR
  refine rt_k (k := 2) (pc' := 8) (L' := [some (.ref 9), some (.int (nI g)), some (.ref ra), some (.int (msk acc)), some (.int (nI i))]) (st' := [.ref 9, .int (nI i)]) (h' := h) (fun _ => rfl) ?_
  refine rt_gf rfl c9 rfl rfl ?_
  refine rt_cvE (v := some (.int (nI I.length))) (h' := h) rfl (by decide) d4 rfl rfl rfl rfl ?_ ?_
  · refine rt_k (k := 1) (pc' := 1) (L' := [some (.ref 4)]) (st' := [.ref 4]) (h' := h) (fun _ => rfl) ?_
    refine rt_gf rfl d4 rfl rfl ?_
    exact rt_r (v := some (.int (nI I.length))) rfl rfl ⟨rfl, rfl⟩
  refine rt_ige rfl (by omega) (by omega) (fun z => ?_) (fun z => ?_)
  ·
    refine rt_k (k := 1) (pc' := 64) (L' := [some (.ref 9), some (.int (nI g)), some (.ref ra), some (.int (msk acc)), some (.int (nI i))]) (st' := [.int (msk acc)]) (h' := h) (fun _ => rfl) ?_
    exact rt_r (v := some (.int (msk acc))) rfl rfl (⟨mk_r (fun p hp => (ha p hp).trans ⟨fun w => w.2, fun w => ⟨by obtain ⟨r, hr, -⟩ := w; have := gt_lt hr; omega, w⟩⟩), rfl⟩)
  obtain ⟨r, hr⟩ := gt_ex z
  obtain ⟨a, fa, za⟩ := HI i r hr
  obtain ⟨v, nd, bk, ps, pf, ⟨-, ca⟩, va, -⟩ := id za
  have step : ∀ acc' : Nat → Prop, (∀ p, p < 32 → (acc' p ↔ acc p ∨ (p = i ∧ mem g i ∧ rP (lVe r) R))) → ∀ p, p < 32 → (acc' p ↔ p < i + 1 ∧ irS I mem g R p) := fun acc' hh p hp => by
    rw [hh p hp, ha p hp]
    constructor
    · rintro (⟨w1, w2⟩ | ⟨rfl, w1, w2⟩)
      · exact ⟨by omega, w2⟩
      · exact ⟨by omega, r, hr, w1, w2⟩
    · rintro ⟨w1, w2⟩
      by_cases e : p = i
      · subst e
        obtain ⟨r', hr', w3, w4⟩ := w2
        rw [hr] at hr'; cases hr'
        exact Or.inr ⟨rfl, w3, w4⟩
      · exact Or.inl ⟨by omega, w2⟩
  refine rt_k (k := 1) (pc' := 18) (L' := [some (.ref 9), some (.int (nI g)), some (.ref ra), some (.int (msk acc)), some (.int (nI i))]) (st' := [.ref 9]) (h' := h) (fun _ => rfl) ?_
  refine rt_gf rfl c9 rfl rfl ?_
  refine rt_k (k := 1) (pc' := 22) (L' := [some (.ref 9), some (.int (nI g)), some (.ref ra), some (.int (msk acc)), some (.int (nI i))]) (st' := [.int (nI g), .ref 10]) (h' := h) (fun _ => rfl) ?_
  refine rt_ialN rfl c10 rfl (by omega) (by decide) ((HM g hg).1) ?_
  refine rt_k (k := 1) (pc' := 25) (L' := [some (.ref 9), some (.int (nI g)), some (.ref ra), some (.int (msk acc)), some (.int (nI i))]) (st' := [.int (nI i), .int (msk (mem g))]) (h' := h) (fun _ => rfl) ?_
  refine rt_cE rfl rfl (isin (by omega) (mem g)) ?_
  refine rt_pe rfl (fun zi => ?_) (fun zi => ?_)
  ·
    refine rt_inc (c := 1) rfl rfl ?_
    refine rt_k (k := 1) (pc' := 5) (L' := [some (.ref 9), some (.int (nI g)), some (.ref ra), some (.int (msk acc)), some (.int (nI (i + 1)))]) (st' := []) (h' := h) (fun _ => rfl) ?_
    exact so_ir1 CI C hR hg (i + 1) z acc (step acc (fun p hp => ⟨Or.inl, fun w => w.elim id (fun ⟨_, w, _⟩ => absurd w zi)⟩))
  refine rt_k (k := 2) (pc' := 33) (L' := [some (.ref 9), some (.int (nI g)), some (.ref ra), some (.int (msk acc)), some (.int (nI i))]) (st' := [.ref 9, .ref ra]) (h' := h) (fun _ => rfl) ?_
  refine rt_gf rfl c9 rfl rfl ?_
  refine rt_k (k := 1) (pc' := 38) (L' := [some (.ref 9), some (.int (nI g)), some (.ref ra), some (.int (msk acc)), some (.int (nI i))]) (st' := [.int (nI i), .ref 4, .ref ra]) (h' := h) (fun _ => rfl) ?_
  refine rt_cvE (v := some (.ref a)) (h' := h) rfl (by decide) d4 rfl rfl rfl rfl ?_ ?_
  · refine rt_k (k := 1) (pc' := 1) (L' := [some (.ref 4), some (.int (nI i))]) (st' := [.ref 4]) (h' := h) (fun _ => rfl) ?_
    refine rt_gf rfl d4 rfl rfl ?_
    refine rt_k (k := 1) (pc' := 5) (L' := [some (.ref 4), some (.int (nI i))]) (st' := [.int (nI i), .ref 5]) (h' := h) (fun _ => rfl) ?_
    refine rt_aalN rfl d5 rfl (by omega) (by decide) fa ?_
    exact rt_r (v := some (.ref a)) rfl rfl ⟨rfl, rfl⟩
  refine rt_gf rfl ca rfl rfl ?_
  refine rt_cvE rfl (by decide) cr rfl rfl rfl rfl (rng_has hR va) ?_
  refine rt_pe rfl (fun zr => ?_) (fun zr => ?_)
  ·
    refine rt_inc (c := 1) rfl rfl ?_
    refine rt_k (k := 1) (pc' := 5) (L' := [some (.ref 9), some (.int (nI g)), some (.ref ra), some (.int (msk acc)), some (.int (nI (i + 1)))]) (st' := []) (h' := h) (fun _ => rfl) ?_
    exact so_ir1 CI C hR hg (i + 1) z acc (step acc (fun p hp => ⟨Or.inl, fun w => w.elim id (fun ⟨_, _, w⟩ => absurd w zr)⟩))
  refine rt_k (k := 3) (pc' := 54) (L' := [some (.ref 9), some (.int (nI g)), some (.ref ra), some (.int (msk acc)), some (.int (nI i))]) (st' := [.int (nI i), .int (nI 1), .int (msk acc)]) (h' := h) (fun _ => rfl) ?_
  refine rt_mbit rfl (by omega) ?_
  refine rt_mor rfl ?_
  refine rt_k (k := 1) (pc' := 57) (L' := [some (.ref 9), some (.int (nI g)), some (.ref ra), some (.int (msk (fun ι => acc ι ∨ (ι = i)))), some (.int (nI i))]) (st' := []) (h' := h) (fun _ => rfl) ?_
  refine rt_inc (c := 1) rfl rfl ?_
  refine rt_k (k := 1) (pc' := 5) (L' := [some (.ref 9), some (.int (nI g)), some (.ref ra), some (.int (msk (fun ι => acc ι ∨ (ι = i)))), some (.int (nI (i + 1)))]) (st' := []) (h' := h) (fun _ => rfl) ?_
  exact so_ir1 CI C hR hg (i + 1) z _ (step _ (fun p hp => ⟨fun w => w.imp id (fun e => ⟨e, zi, zr⟩), fun w => w.imp id (fun e => e.1)⟩))
termination_by I.length - i
theorem so_inRange {I : List kL} {nx g ra : Nat} {R : kR} (CI : cI h I nx) (C : sR h I.length G mem gn riv ned rg op li le so fo) (hR : zR h ra R) (hg : g < G) : rt_ X (d + 3) 80 0 [some (.ref 9), some (.int (nI g)), some (.ref ra), none, none] [] h (fun v h' => v = some (.int (msk (irS I mem g R))) ∧ h' = h) := by
  refine rt_k (k := 4) (pc' := 5) (L' := [some (.ref 9), some (.int (nI g)), some (.ref ra), some (.int (msk (fun _ => False))), some (.int (nI 0))]) (st' := []) (h' := h) (fun _ => by rw [msk_0]; rfl) ?_
  exact so_ir1 CI C hR hg 0 (Nat.zero_le _) _ (fun p hp => ⟨fun w => absurd w id, fun w => absurd w.1 (Nat.not_lt_zero _)⟩)
/-- rivals both ways -/
def syR (p : Nat) (o : Nat → Prop) (a q : Nat) : Prop := (a = p ∧ o q) ∨ (o a ∧ q = p)
theorem sR.rv {h h' : List va_E} {riv' : Nat → Nat → Prop} {R' : Nat → Int32} (C : sR h n G mem gn riv ned rg op li le so fo) (f : fr_ (fun z => z = 12) h h') (c : h'[12]? = some (.inl (2, 32, .inl R'))) (hr : ∀ p, p < n → R' p = msk (riv' p)) : sR h' n G mem gn riv' ned rg op li le so fo := by
  obtain ⟨M, N, R, E, nx, c9, c10, c11, c12, c13, c4, hG, hn, HM, HR⟩ := id C
  exact ⟨M, N, R', E, nx, fr_at f (by decide) c9, fr_at f (by decide) c10, fr_at f (by decide) c11, c, fr_at f (by decide) c13, fr_at f (by decide) c4, hG, hn, HM, fun p hp => ⟨hr p hp, (HR p hp).2⟩⟩
theorem so_ar1 (p : Nat) (o : Nat → Prop) (hp : p < n) (i : Nat) (h : List va_E) (riv : Nat → Nat → Prop) (C : sR h n G mem gn riv ned rg op li le so fo) (hi : i ≤ n) (B : Nat → Nat → Prop) (hr : ∀ a, a < n → ∀ q, q < 32 → (riv a q ↔ B a q ∨ (a = p ∧ o q) ∨ (o a ∧ a < i ∧ q = p))) (k : ∀ (h' : List va_E) (riv' : Nat → Nat → Prop) x, fr_ (fun z => z = 12) h h' → sR h' n G mem gn riv' ned rg op li le so fo → (∀ a, a < n → ∀ q, q < 32 → (riv' a q ↔ B a q ∨ syR p o a q)) → rt_ X (d + 1) 83 49 [some (.ref 9), some (.int (nI p)), some (.int (msk o)), x] [] h' Q) : rt_ X (d + 1) 83 12 [some (.ref 9), some (.int (nI p)), some (.int (msk o)), some (.int (nI i))] [] h Q := by
  obtain ⟨M, N, R, E, nx, c9, c10, c11, c12, c13, c4, hG, hn, HM, HR⟩ := id C
  refine rt_k (k := 2) (pc' := 14) (L' := [some (.ref 9), some (.int (nI p)), some (.int (msk o)), some (.int (nI i))]) (st' := [.ref 9, .int (nI i)]) (h' := h) (fun _ => rfl) ?_
  refine rt_gf rfl c9 rfl rfl ?_
  refine rt_cvE (v := some (.int (nI n))) (h' := h) rfl (by decide) c4 rfl rfl rfl rfl ?_ ?_
  · refine rt_k (k := 1) (pc' := 1) (L' := [some (.ref 4)]) (st' := [.ref 4]) (h' := h) (fun _ => rfl) ?_
    refine rt_gf rfl c4 rfl rfl ?_
    exact rt_r (v := some (.int (nI n))) rfl rfl ⟨rfl, rfl⟩
  refine rt_ige rfl (by omega) (by omega) (fun z => ?_) (fun z => ?_)
  ·
    exact k h riv _ fr_rf C (fun a ha q hq => (hr a ha q hq).trans (or_congr Iff.rfl (or_congr Iff.rfl ⟨fun w => ⟨w.1, w.2.2⟩, fun w => ⟨w.1, by omega, w.2⟩⟩)))
  refine rt_k (k := 2) (pc' := 25) (L' := [some (.ref 9), some (.int (nI p)), some (.int (msk o)), some (.int (nI i))]) (st' := [.int (nI i), .int (msk o)]) (h' := h) (fun _ => rfl) ?_
  refine rt_cE rfl rfl (isin (by omega) o) ?_
  refine rt_pe rfl (fun zi => ?_) (fun zi => ?_)
  ·
    refine rt_inc (c := 1) rfl rfl ?_
    refine rt_k (k := 1) (pc' := 12) (L' := [some (.ref 9), some (.int (nI p)), some (.int (msk o)), some (.int (nI (i + 1)))]) (st' := []) (h' := h) (fun _ => rfl) ?_
    refine so_ar1 p o hp (i + 1) h riv C z B (fun a ha q hq => (hr a ha q hq).trans (or_congr Iff.rfl (or_congr Iff.rfl ⟨fun w => ⟨w.1, by omega, w.2.2⟩, fun w => ⟨w.1, ?_, w.2.2⟩⟩))) k
    by_cases e : a = i
    · subst e; exact absurd w.1 zi
    · have := w.2.1; omega
  refine rt_k (k := 1) (pc' := 32) (L' := [some (.ref 9), some (.int (nI p)), some (.int (msk o)), some (.int (nI i))]) (st' := [.ref 9]) (h' := h) (fun _ => rfl) ?_
  refine rt_gf rfl c9 rfl rfl ?_
  refine rt_k (k := 2) (pc' := 37) (L' := [some (.ref 9), some (.int (nI p)), some (.int (msk o)), some (.int (nI i))]) (st' := [.int (nI i), .ref 12, .int (nI i), .ref 12]) (h' := h) (fun _ => rfl) ?_
  refine rt_ialN rfl c12 rfl (by omega) (by decide) ((HR i z).1) ?_
  refine rt_k (k := 2) (pc' := 40) (L' := [some (.ref 9), some (.int (nI p)), some (.int (msk o)), some (.int (nI i))]) (st' := [.int (nI p), .int (nI 1), .int (msk (riv i)), .int (nI i), .ref 12]) (h' := h) (fun _ => rfl) ?_
  refine rt_mbit rfl (by omega) ?_
  refine rt_mor rfl ?_
  refine rt_iasN rfl c12 rfl (by omega) (by decide) ?_
  have f_1 : fr_ (fun z => z = 12) h (h.set 12 (.inl (2, 32, .inl (upd R i (msk (fun ι => (riv i) ι ∨ (ι = p))))))) := fr_set (e' := .inl (2, 32, .inl (upd R i (msk (fun ι => (riv i) ι ∨ (ι = p)))))) c12 (by rfl) (by first | decide | simp)
  have c_2 := hs_ne (a := 12) (e' := .inl (2, 32, .inl (upd R i (msk (fun ι => (riv i) ι ∨ (ι = p)))))) c9 (by decide)
  have c_3 := hs_ne (a := 12) (e' := .inl (2, 32, .inl (upd R i (msk (fun ι => (riv i) ι ∨ (ι = p)))))) c4 (by decide)
  have c_4 := hs_self (e' := .inl (2, 32, .inl (upd R i (msk (fun ι => (riv i) ι ∨ (ι = p)))))) c12
  refine rt_inc (c := 1) rfl rfl ?_
  refine rt_k (k := 1) (pc' := 12) (L' := [some (.ref 9), some (.int (nI p)), some (.int (msk o)), some (.int (nI (i + 1)))]) (st' := []) (h' := (h.set 12 (.inl (2, 32, .inl (upd R i (msk (fun ι => (riv i) ι ∨ (ι = p)))))))) (fun _ => rfl) ?_
  have C' := sR.rv (riv' := fun a q => riv a q ∨ (a = i ∧ q = p)) C f_1 c_4 (fun a ha => by
    unfold upd
    by_cases e : a = i
    · rw [if_pos e]; subst e; exact msk_cg (fun q hq => ⟨fun w => w.imp id (fun w => ⟨rfl, w⟩), fun w => w.imp id (fun w => w.2)⟩)
    · rw [if_neg e, (HR a ha).1]; exact msk_cg (fun q hq => ⟨Or.inl, fun w => w.elim id (fun w => absurd w.1 e)⟩))
  refine so_ar1 p o hp (i + 1) _ _ C' z B (fun a ha q hq => ?_) (fun h' riv' x f1 => k h' riv' x (fr_tr f_1 f1))
  rw [hr a ha q hq]
  constructor
  · rintro ((w | w | w) | w)
    · exact Or.inl w
    · exact Or.inr (Or.inl w)
    · exact Or.inr (Or.inr ⟨w.1, by omega, w.2.2⟩)
    · exact Or.inr (Or.inr ⟨by rw [w.1]; exact zi, by omega, w.2⟩)
  · rintro (w | w | w)
    · exact Or.inl (Or.inl w)
    · exact Or.inl (Or.inr (Or.inl w))
    · by_cases e : a = i
      · exact Or.inr ⟨e, w.2.2⟩
      · exact Or.inl (Or.inr (Or.inr ⟨w.1, by omega, w.2.2⟩))
termination_by n - i
theorem so_addRivals (C : sR h n G mem gn riv ned rg op li le so fo) (p : Nat) (hp : p < n) (o : Nat → Prop) : rt_ X (d + 1) 83 0 [some (.ref 9), some (.int (nI p)), some (.int (msk o)), none] [] h (fun v h' => v = none ∧ fr_ (fun z => z = 12) h h' ∧ ∃ riv', sR h' n G mem gn riv' ned rg op li le so fo ∧ ∀ a, a < n → ∀ q, q < 32 → (riv' a q ↔ riv a q ∨ syR p o a q)) := by
  obtain ⟨M, N, R, E, nx, c9, c10, c11, c12, c13, c4, hG, hn, HM, HR⟩ := id C
  refine rt_k (k := 1) (pc' := 1) (L' := [some (.ref 9), some (.int (nI p)), some (.int (msk o)), none]) (st' := [.ref 9]) (h' := h) (fun _ => rfl) ?_
  refine rt_gf rfl c9 rfl rfl ?_
  refine rt_k (k := 2) (pc' := 6) (L' := [some (.ref 9), some (.int (nI p)), some (.int (msk o)), none]) (st' := [.int (nI p), .ref 12, .int (nI p), .ref 12]) (h' := h) (fun _ => rfl) ?_
  refine rt_ialN rfl c12 rfl (by omega) (by decide) ((HR p hp).1) ?_
  refine rt_k (k := 1) (pc' := 8) (L' := [some (.ref 9), some (.int (nI p)), some (.int (msk o)), none]) (st' := [.int (msk o), .int (msk (riv p)), .int (nI p), .ref 12]) (h' := h) (fun _ => rfl) ?_
  refine rt_mor rfl ?_
  refine rt_iasN rfl c12 rfl (by omega) (by decide) ?_
  have f_5 : fr_ (fun z => z = 12) h (h.set 12 (.inl (2, 32, .inl (upd R p (msk (fun ι => (riv p) ι ∨ o ι)))))) := fr_set (e' := .inl (2, 32, .inl (upd R p (msk (fun ι => (riv p) ι ∨ o ι))))) c12 (by rfl) (by first | decide | simp)
  have c_6 := hs_ne (a := 12) (e' := .inl (2, 32, .inl (upd R p (msk (fun ι => (riv p) ι ∨ o ι))))) c9 (by decide)
  have c_7 := hs_self (e' := .inl (2, 32, .inl (upd R p (msk (fun ι => (riv p) ι ∨ o ι))))) c12
  refine rt_k (k := 2) (pc' := 12) (L' := [some (.ref 9), some (.int (nI p)), some (.int (msk o)), some (.int (nI 0))]) (st' := []) (h' := (h.set 12 (.inl (2, 32, .inl (upd R p (msk (fun ι => (riv p) ι ∨ o ι))))))) (fun _ => rfl) ?_
  have C' := sR.rv (riv' := fun a q => riv a q ∨ (a = p ∧ o q)) C f_5 c_7 (fun a ha => by
    unfold upd
    by_cases e : a = p
    · rw [if_pos e]; subst e; exact msk_cg (fun q hq => ⟨fun w => w.imp id (fun w => ⟨rfl, w⟩), fun w => w.imp id (fun w => w.2)⟩)
    · rw [if_neg e, (HR a ha).1]; exact msk_cg (fun q hq => ⟨Or.inl, fun w => w.elim id (fun w => absurd w.1 e)⟩))
  refine so_ar1 p o hp 0 _ _ C' (Nat.zero_le _) riv (fun a ha q hq => ⟨fun w => w.imp id Or.inl, fun w => w.imp id (fun w => w.elim id (fun w => absurd w.2.1 (Nat.not_lt_zero _)))⟩) (fun h' riv' x f1 C2 hh => ?_)
  exact rt_r (v := none) rfl rfl ⟨rfl, fr_tr f_5 f1, riv', C2, hh⟩
end SO4

