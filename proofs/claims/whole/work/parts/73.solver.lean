/-! THE SOLVER: at 9; what it reads of its masks. -/
def sR (h : List va_E) (n G : Nat) (mem : Nat → Nat → Prop) (gn : Nat → Int64) (riv ned : Nat → Nat → Prop) (rg op : Nat → Prop) (li le so : Prop) (fo : Nat → Prop) : Prop := ∃ (M : Nat → Int32) (N : Nat → Int64) (R E : Nat → Int32) (nx : Nat), h[9]? = some (.inr (5, [.ref 4, .ref 6, .ref 10, .ref 11, .int (nI G), .ref 12, .ref 13, .int (msk rg), .int (msk op), .int (tB li), .int (tB le), .int (tB so), .int (msk fo)])) ∧ h[10]? = some (.inl (2, 8, .inl M)) ∧ h[11]? = some (.inl (1, 8, .inr (.inl N))) ∧ h[12]? = some (.inl (2, 32, .inl R)) ∧ h[13]? = some (.inl (2, 32, .inl E)) ∧ h[4]? = some (.inr (3, [.ref 5, .int (nI n), .int (nI nx)])) ∧ G ≤ 8 ∧ n ≤ 32 ∧ (∀ g, g < G → M g = msk (mem g) ∧ N g = gn g) ∧ ∀ p, p < n → R p = msk (riv p) ∧ E p = msk (ned p)
section SO
variable {X : Nat × (Nat → Int32)} {d : Nat} {h : List va_E} {Q : Option Value → List va_E → Prop} {n G : Nat} {mem : Nat → Nat → Prop} {gn : Nat → Int64} {riv ned : Nat → Nat → Prop} {rg op : Nat → Prop} {li le so : Prop} {fo : Nat → Prop}
theorem mk_r {p q : Nat → Prop} (e : ∀ i, i < 32 → (p i ↔ q i)) : some (Value.int (msk p)) = some (Value.int (msk q)) := by rw [msk_cg e]
def mOf (G : Nat) (mem : Nat → Nat → Prop) (S : Nat → Prop) : Nat → Prop := fun q => ∃ g, g < G ∧ S g ∧ mem g q
theorem so_mo1 (C : sR h n G mem gn riv ned rg op li le so fo) (S : Nat → Prop) (i : Nat) (hi : i ≤ G) (acc : Nat → Prop) (ha : ∀ q, q < 32 → (acc q ↔ mOf i mem S q)) : rt_ X (d + 1) 91 4 [some (.ref 9), some (.int (msk S)), some (.int (msk acc)), some (.int (nI i))] [] h (fun v h' => v = some (.int (msk (mOf G mem S))) ∧ h' = h) := by
  obtain ⟨M, N, R, E, nx, c9, c10, c11, c12, c13, c4, hG, hn, HM, HR⟩ := id C
  refine rt_k (k := 2) (pc' := 6) (L' := [some (.ref 9), some (.int (msk S)), some (.int (msk acc)), some (.int (nI i))]) (st' := [.ref 9, .int (nI i)]) (h' := h) (fun _ => rfl) ?_
  refine rt_gf rfl c9 rfl rfl ?_
  refine rt_ige rfl (by omega) (by omega) (fun z => ?_) (fun z => ?_)
  ·
    have e : i = G := by omega
    subst e
    refine rt_k (k := 1) (pc' := 36) (L' := [some (.ref 9), some (.int (msk S)), some (.int (msk acc)), some (.int (nI i))]) (st' := [.int (msk acc)]) (h' := h) (fun _ => rfl) ?_
    exact rt_r (v := some (.int (msk acc))) rfl rfl (⟨mk_r ha, rfl⟩)
  refine rt_k (k := 2) (pc' := 14) (L' := [some (.ref 9), some (.int (msk S)), some (.int (msk acc)), some (.int (nI i))]) (st' := [.int (nI i), .int (msk S)]) (h' := h) (fun _ => rfl) ?_
  refine rt_cE rfl rfl (isin (by omega) S) ?_
  refine rt_pe rfl (fun zi => ?_) (fun zi => ?_)
  ·
    refine rt_inc (c := 1) rfl rfl ?_
    refine rt_k (k := 1) (pc' := 4) (L' := [some (.ref 9), some (.int (msk S)), some (.int (msk acc)), some (.int (nI (i + 1)))]) (st' := []) (h' := h) (fun _ => rfl) ?_
    refine so_mo1 C S (i + 1) z acc (fun q hq => (ha q hq).trans ⟨fun ⟨g, a, b⟩ => ⟨g, by omega, b⟩, fun ⟨g, a, b⟩ => ⟨g, ?_, b⟩⟩)
    by_cases e : g = i
    · subst e; exact absurd b.1 zi
    · omega
  refine rt_k (k := 2) (pc' := 22) (L' := [some (.ref 9), some (.int (msk S)), some (.int (msk acc)), some (.int (nI i))]) (st' := [.ref 9, .int (msk acc)]) (h' := h) (fun _ => rfl) ?_
  refine rt_gf rfl c9 rfl rfl ?_
  refine rt_k (k := 1) (pc' := 26) (L' := [some (.ref 9), some (.int (msk S)), some (.int (msk acc)), some (.int (nI i))]) (st' := [.int (nI i), .ref 10, .int (msk acc)]) (h' := h) (fun _ => rfl) ?_
  refine rt_ialN rfl c10 rfl (by omega) (by decide) ((HM i z).1) ?_
  refine rt_mor rfl ?_
  refine rt_k (k := 1) (pc' := 29) (L' := [some (.ref 9), some (.int (msk S)), some (.int (msk (fun ι => acc ι ∨ (mem i) ι))), some (.int (nI i))]) (st' := []) (h' := h) (fun _ => rfl) ?_
  refine rt_inc (c := 1) rfl rfl ?_
  refine rt_k (k := 1) (pc' := 4) (L' := [some (.ref 9), some (.int (msk S)), some (.int (msk (fun ι => acc ι ∨ (mem i) ι))), some (.int (nI (i + 1)))]) (st' := []) (h' := h) (fun _ => rfl) ?_
  refine so_mo1 C S (i + 1) z _ (fun q hq => ⟨?_, ?_⟩)
  · rintro (w | w)
    · obtain ⟨g, a, b⟩ := (ha q hq).mp w
      exact ⟨g, by omega, b⟩
    · exact ⟨i, by omega, zi, w⟩
  · rintro ⟨g, a, b⟩
    by_cases e : g = i
    · subst e; exact Or.inr b.2
    · exact Or.inl ((ha q hq).mpr ⟨g, by omega, b⟩)
termination_by G - i
theorem so_membersOf (C : sR h n G mem gn riv ned rg op li le so fo) (S : Nat → Prop) : rt_ X (d + 1) 91 0 [some (.ref 9), some (.int (msk S)), none, none] [] h (fun v h' => v = some (.int (msk (mOf G mem S))) ∧ h' = h) := by
  refine rt_k (k := 4) (pc' := 4) (L' := [some (.ref 9), some (.int (msk S)), some (.int (msk (fun _ => False))), some (.int (nI 0))]) (st' := []) (h' := h) (fun _ => by rw [msk_0]; rfl) ?_
  exact so_mo1 C S 0 (Nat.zero_le _) _ (fun q hq => ⟨fun w => absurd w id, fun ⟨g, a, _⟩ => absurd a (Nat.not_lt_zero _)⟩)
/-- its needs can be met by candidates that are no rivals -/
def cMt (G : Nat) (mem riv ned : Nat → Nat → Prop) (p : Nat) (c : Nat → Prop) : Prop := ∀ g, g < G → ned p g → ∃ q, q < 32 ∧ mem g q ∧ c q ∧ ¬ riv p q
theorem so_cm1 (C : sR h n G mem gn riv ned rg op li le so fo) (c : Nat → Prop) (p : Nat) (hp : p < n) (i : Nat) (hi : i ≤ G) (H : ∀ g, g < i → ned p g → ∃ q, q < 32 ∧ mem g q ∧ c q ∧ ¬ riv p q) : rt_ X (d + 1) 89 14 [some (.ref 9), some (.int (nI p)), some (.int (msk c)), some (.int (msk (fun i => c i ∧ ¬ riv p i))), some (.int (nI i))] [] h (fun v h' => v = some (.int (tB (cMt G mem riv ned p c))) ∧ h' = h) := by
  obtain ⟨M, N, R, E, nx, c9, c10, c11, c12, c13, c4, hG, hn, HM, HR⟩ := id C
  refine rt_k (k := 2) (pc' := 17) (L' := [some (.ref 9), some (.int (nI p)), some (.int (msk c)), some (.int (msk (fun i => c i ∧ ¬ riv p i))), some (.int (nI i))]) (st' := [.ref 9, .int (nI i)]) (h' := h) (fun _ => rfl) ?_
  refine rt_gf rfl c9 rfl rfl ?_
  refine rt_ige rfl (by omega) (by omega) (fun z => ?_) (fun z => ?_)
  ·
    refine rt_k (k := 1) (pc' := 58) (L' := [some (.ref 9), some (.int (nI p)), some (.int (msk c)), some (.int (msk (fun i => c i ∧ ¬ riv p i))), some (.int (nI i))]) (st' := [.int (nI 1)]) (h' := h) (fun _ => rfl) ?_
    exact rt_r (v := some (.int (nI 1))) rfl rfl (⟨ret1 (fun g hg => H g (by omega)), rfl⟩)
  refine rt_k (k := 1) (pc' := 24) (L' := [some (.ref 9), some (.int (nI p)), some (.int (msk c)), some (.int (msk (fun i => c i ∧ ¬ riv p i))), some (.int (nI i))]) (st' := [.ref 9]) (h' := h) (fun _ => rfl) ?_
  refine rt_gf rfl c9 rfl rfl ?_
  refine rt_k (k := 1) (pc' := 28) (L' := [some (.ref 9), some (.int (nI p)), some (.int (msk c)), some (.int (msk (fun i => c i ∧ ¬ riv p i))), some (.int (nI i))]) (st' := [.int (nI p), .ref 13]) (h' := h) (fun _ => rfl) ?_
  refine rt_ialN rfl c13 rfl (by omega) (by decide) ((HR p hp).2) ?_
  refine rt_k (k := 1) (pc' := 31) (L' := [some (.ref 9), some (.int (nI p)), some (.int (msk c)), some (.int (msk (fun i => c i ∧ ¬ riv p i))), some (.int (nI i))]) (st' := [.int (nI i), .int (msk (ned p))]) (h' := h) (fun _ => rfl) ?_
  refine rt_cE rfl rfl (isin (by omega) (ned p)) ?_
  refine rt_pe rfl (fun zi => ?_) (fun zi => ?_)
  ·
    refine rt_inc (c := 1) rfl rfl ?_
    refine rt_k (k := 1) (pc' := 14) (L' := [some (.ref 9), some (.int (nI p)), some (.int (msk c)), some (.int (msk (fun i => c i ∧ ¬ riv p i))), some (.int (nI (i + 1)))]) (st' := []) (h' := h) (fun _ => rfl) ?_
    exact so_cm1 C c p hp (i + 1) z (fun g hg hd => by
      by_cases e : g = i
      · subst e; exact absurd hd zi
      · exact H g (by omega) hd)
  refine rt_k (k := 1) (pc' := 38) (L' := [some (.ref 9), some (.int (nI p)), some (.int (msk c)), some (.int (msk (fun i => c i ∧ ¬ riv p i))), some (.int (nI i))]) (st' := [.ref 9]) (h' := h) (fun _ => rfl) ?_
  refine rt_gf rfl c9 rfl rfl ?_
  refine rt_k (k := 1) (pc' := 43) (L' := [some (.ref 9), some (.int (nI p)), some (.int (msk c)), some (.int (msk (fun i => c i ∧ ¬ riv p i))), some (.int (nI i))]) (st' := [.int (nI i), .ref 10]) (h' := h) (fun _ => rfl) ?_
  refine rt_ialN rfl c10 rfl (by omega) (by decide) ((HM i z).1) ?_
  refine rt_k (k := 1) (pc' := 45) (L' := [some (.ref 9), some (.int (nI p)), some (.int (msk c)), some (.int (msk (fun i => c i ∧ ¬ riv p i))), some (.int (nI i))]) (st' := [.int (msk (fun i => c i ∧ ¬ riv p i)), .int (msk (mem i))]) (h' := h) (fun _ => rfl) ?_
  refine rt_mand rfl ?_
  refine rt_mn rfl (fun zz => ?_) (fun zz => ?_)
  rotate_left
  ·
    refine rt_k (k := 1) (pc' := 50) (L' := [some (.ref 9), some (.int (nI p)), some (.int (msk c)), some (.int (msk (fun i => c i ∧ ¬ riv p i))), some (.int (nI i))]) (st' := [.int (nI 0)]) (h' := h) (fun _ => rfl) ?_
    exact rt_r (v := some (.int (nI 0))) rfl rfl (⟨ret0 (fun w => by obtain ⟨q, q1, q2, q3⟩ := w i z zi; exact zz q q1 ⟨q2, q3⟩), rfl⟩)
  refine rt_inc (c := 1) rfl rfl ?_
  refine rt_k (k := 1) (pc' := 14) (L' := [some (.ref 9), some (.int (nI p)), some (.int (msk c)), some (.int (msk (fun i => c i ∧ ¬ riv p i))), some (.int (nI (i + 1)))]) (st' := []) (h' := h) (fun _ => rfl) ?_
  exact so_cm1 C c p hp (i + 1) z (fun g hg hd => by
    by_cases e : g = i
    · subst e; obtain ⟨q, q1, q2, q3⟩ := zz; exact ⟨q, q1, q2, q3⟩
    · exact H g (by omega) hd)
termination_by G - i
theorem so_canMeet (C : sR h n G mem gn riv ned rg op li le so fo) (c : Nat → Prop) (p : Nat) (hp : p < n) : rt_ X (d + 1) 89 0 [some (.ref 9), some (.int (nI p)), some (.int (msk c)), none, none] [] h (fun v h' => v = some (.int (tB (cMt G mem riv ned p c))) ∧ h' = h) := by
  obtain ⟨M, N, R, E, nx, c9, c10, c11, c12, c13, c4, hG, hn, HM, HR⟩ := id C
  refine rt_k (k := 2) (pc' := 2) (L' := [some (.ref 9), some (.int (nI p)), some (.int (msk c)), none, none]) (st' := [.ref 9, .int (msk c)]) (h' := h) (fun _ => rfl) ?_
  refine rt_gf rfl c9 rfl rfl ?_
  refine rt_k (k := 1) (pc' := 6) (L' := [some (.ref 9), some (.int (nI p)), some (.int (msk c)), none, none]) (st' := [.int (nI p), .ref 12, .int (msk c)]) (h' := h) (fun _ => rfl) ?_
  refine rt_ialN rfl c12 rfl (by omega) (by decide) ((HR p hp).1) ?_
  refine rt_k (k := 1) (pc' := 8) (L' := [some (.ref 9), some (.int (nI p)), some (.int (msk c)), none, none]) (st' := [.int (-1), .int (msk (riv p)), .int (msk c)]) (h' := h) (fun _ => rfl) ?_
  refine rt_mnot rfl ?_
  refine rt_mand rfl ?_
  refine rt_k (k := 3) (pc' := 14) (L' := [some (.ref 9), some (.int (nI p)), some (.int (msk c)), some (.int (msk (fun ι => c ι ∧ (¬ (riv p) ι)))), some (.int (nI 0))]) (st' := []) (h' := h) (fun _ => rfl) ?_
  exact so_cm1 C c p hp 0 (Nat.zero_le _) (fun g hg => absurd hg (Nat.not_lt_zero _))
/-- without those, one place after the other, whose needs can't be met -/
def wnm (G : Nat) (mem riv ned : Nat → Nat → Prop) (c : Nat → Prop) : Nat → Nat → Prop
  | 0 => c
  | i + 1 => fun q => wnm G mem riv ned c i q ∧ ¬ (q = i ∧ ¬ cMt G mem riv ned i (wnm G mem riv ned c i))
theorem cMt_cg {p : Nat} {c c' : Nat → Prop} (e : ∀ q, q < 32 → (c q ↔ c' q)) : cMt G mem riv ned p c ↔ cMt G mem riv ned p c' :=
  ⟨fun w g hg hd => by obtain ⟨q, a, b, x, y⟩ := w g hg hd; exact ⟨q, a, b, (e q a).mp x, y⟩, fun w g hg hd => by obtain ⟨q, a, b, x, y⟩ := w g hg hd; exact ⟨q, a, b, (e q a).mpr x, y⟩⟩
theorem so_wn1 (C : sR h n G mem gn riv ned rg op li le so fo) (c : Nat → Prop) (c0 : Nat → Prop) (i : Nat) (hi : i ≤ n) (acc : Nat → Prop) (ha : ∀ q, q < 32 → (acc q ↔ wnm G mem riv ned c i q)) : rt_ X (d + 2) 88 4 [some (.ref 9), some (.int (msk c0)), some (.int (msk acc)), some (.int (nI i))] [] h (fun v h' => v = some (.int (msk (wnm G mem riv ned c n))) ∧ h' = h) := by
  obtain ⟨M, N, R, E, nx, c9, c10, c11, c12, c13, c4, hG, hn, HM, HR⟩ := id C
  refine rt_k (k := 2) (pc' := 6) (L' := [some (.ref 9), some (.int (msk c0)), some (.int (msk acc)), some (.int (nI i))]) (st' := [.ref 9, .int (nI i)]) (h' := h) (fun _ => rfl) ?_
  refine rt_gf rfl c9 rfl rfl ?_
  refine rt_cvE (v := some (.int (nI n))) (h' := h) rfl (by decide) c4 rfl rfl rfl rfl ?_ ?_
  · refine rt_k (k := 1) (pc' := 1) (L' := [some (.ref 4)]) (st' := [.ref 4]) (h' := h) (fun _ => rfl) ?_
    refine rt_gf rfl c4 rfl rfl ?_
    exact rt_r (v := some (.int (nI n))) rfl rfl ⟨rfl, rfl⟩
  refine rt_ige rfl (by omega) (by omega) (fun z => ?_) (fun z => ?_)
  ·
    have e : i = n := by omega
    subst e
    refine rt_k (k := 1) (pc' := 47) (L' := [some (.ref 9), some (.int (msk c0)), some (.int (msk acc)), some (.int (nI i))]) (st' := [.int (msk acc)]) (h' := h) (fun _ => rfl) ?_
    exact rt_r (v := some (.int (msk acc))) rfl rfl (⟨mk_r ha, rfl⟩)
  refine rt_k (k := 2) (pc' := 17) (L' := [some (.ref 9), some (.int (msk c0)), some (.int (msk acc)), some (.int (nI i))]) (st' := [.int (nI i), .int (msk acc)]) (h' := h) (fun _ => rfl) ?_
  refine rt_cE rfl rfl (isin (by omega) acc) ?_
  refine rt_pe rfl (fun zi => ?_) (fun zi => ?_)
  ·
    refine rt_inc (c := 1) rfl rfl ?_
    refine rt_k (k := 1) (pc' := 4) (L' := [some (.ref 9), some (.int (msk c0)), some (.int (msk acc)), some (.int (nI (i + 1)))]) (st' := []) (h' := h) (fun _ => rfl) ?_
    refine so_wn1 C c c0 (i + 1) z acc (fun q hq => (ha q hq).trans ⟨fun w => ⟨w, ?_⟩, fun w => w.1⟩)
    rintro ⟨rfl, -⟩
    exact zi ((ha _ hq).mpr w)
  refine rt_k (k := 3) (pc' := 26) (L' := [some (.ref 9), some (.int (msk c0)), some (.int (msk acc)), some (.int (nI i))]) (st' := [.int (msk acc), .int (nI i), .ref 9]) (h' := h) (fun _ => rfl) ?_
  refine rt_cvE rfl (by decide) c9 rfl rfl rfl rfl (so_canMeet C acc i z) ?_
  refine rt_pn rfl (fun zc => ?_) (fun zc => ?_)
  ·
    refine rt_inc (c := 1) rfl rfl ?_
    refine rt_k (k := 1) (pc' := 4) (L' := [some (.ref 9), some (.int (msk c0)), some (.int (msk acc)), some (.int (nI (i + 1)))]) (st' := []) (h' := h) (fun _ => rfl) ?_
    refine so_wn1 C c c0 (i + 1) z acc (fun q hq => (ha q hq).trans ⟨fun w => ⟨w, ?_⟩, fun w => w.1⟩)
    rintro ⟨rfl, w2⟩
    exact w2 ((cMt_cg ha).mp zc)
  refine rt_k (k := 3) (pc' := 35) (L' := [some (.ref 9), some (.int (msk c0)), some (.int (msk acc)), some (.int (nI i))]) (st' := [.int (nI i), .int (nI 1), .int (msk acc)]) (h' := h) (fun _ => rfl) ?_
  refine rt_mbit rfl (by omega) ?_
  refine rt_k (k := 1) (pc' := 37) (L' := [some (.ref 9), some (.int (msk c0)), some (.int (msk acc)), some (.int (nI i))]) (st' := [.int (-1), .int (msk (fun ι => ι = i)), .int (msk acc)]) (h' := h) (fun _ => rfl) ?_
  refine rt_mnot rfl ?_
  refine rt_mand rfl ?_
  refine rt_k (k := 1) (pc' := 40) (L' := [some (.ref 9), some (.int (msk c0)), some (.int (msk (fun ι => acc ι ∧ (¬ (ι = i))))), some (.int (nI i))]) (st' := []) (h' := h) (fun _ => rfl) ?_
  refine rt_inc (c := 1) rfl rfl ?_
  refine rt_k (k := 1) (pc' := 4) (L' := [some (.ref 9), some (.int (msk c0)), some (.int (msk (fun ι => acc ι ∧ (¬ (ι = i))))), some (.int (nI (i + 1)))]) (st' := []) (h' := h) (fun _ => rfl) ?_
  refine so_wn1 C c c0 (i + 1) z _ (fun q hq => ⟨fun w => ⟨(ha q hq).mp w.1, fun w2 => w.2 w2.1⟩, fun w => ⟨(ha q hq).mpr w.1, fun e => w.2 ⟨e, fun w3 => zc ((cMt_cg ha).mpr w3)⟩⟩⟩)
termination_by n - i
theorem so_withNeeds (C : sR h n G mem gn riv ned rg op li le so fo) (c : Nat → Prop) : rt_ X (d + 2) 88 0 [some (.ref 9), some (.int (msk c)), none, none] [] h (fun v h' => v = some (.int (msk (wnm G mem riv ned c n))) ∧ h' = h) := by
  refine rt_k (k := 4) (pc' := 4) (L' := [some (.ref 9), some (.int (msk c)), some (.int (msk c)), some (.int (nI 0))]) (st' := []) (h' := h) (fun _ => rfl) ?_
  exact so_wn1 C c c 0 (Nat.zero_le _) c (fun q hq => Iff.rfl)
def mRt (G : Nat) (mem : Nat → Nat → Prop) (rg c : Nat → Prop) : Prop := ∀ g, g < G → rg g → ∃ q, q < 32 ∧ mem g q ∧ c q
theorem so_mr1 (C : sR h n G mem gn riv ned rg op li le so fo) (c : Nat → Prop) (i : Nat) (hi : i ≤ G) (H : ∀ g, g < i → rg g → ∃ q, q < 32 ∧ mem g q ∧ c q) : rt_ X (d + 1) 92 2 [some (.ref 9), some (.int (msk c)), some (.int (nI i))] [] h (fun v h' => v = some (.int (tB (mRt G mem rg c))) ∧ h' = h) := by
  obtain ⟨M, N, R, E, nx, c9, c10, c11, c12, c13, c4, hG, hn, HM, HR⟩ := id C
  refine rt_k (k := 2) (pc' := 4) (L' := [some (.ref 9), some (.int (msk c)), some (.int (nI i))]) (st' := [.ref 9, .int (nI i)]) (h' := h) (fun _ => rfl) ?_
  refine rt_gf rfl c9 rfl rfl ?_
  refine rt_ige rfl (by omega) (by omega) (fun z => ?_) (fun z => ?_)
  ·
    refine rt_k (k := 1) (pc' := 41) (L' := [some (.ref 9), some (.int (msk c)), some (.int (nI i))]) (st' := [.int (nI 1)]) (h' := h) (fun _ => rfl) ?_
    exact rt_r (v := some (.int (nI 1))) rfl rfl (⟨ret1 (fun g hg => H g (by omega)), rfl⟩)
  refine rt_k (k := 1) (pc' := 11) (L' := [some (.ref 9), some (.int (msk c)), some (.int (nI i))]) (st' := [.ref 9]) (h' := h) (fun _ => rfl) ?_
  refine rt_gf rfl c9 rfl rfl ?_
  refine rt_k (k := 1) (pc' := 15) (L' := [some (.ref 9), some (.int (msk c)), some (.int (nI i))]) (st' := [.int (nI i), .int (msk rg)]) (h' := h) (fun _ => rfl) ?_
  refine rt_cE rfl rfl (isin (by omega) rg) ?_
  refine rt_pe rfl (fun zi => ?_) (fun zi => ?_)
  ·
    refine rt_inc (c := 1) rfl rfl ?_
    refine rt_k (k := 1) (pc' := 2) (L' := [some (.ref 9), some (.int (msk c)), some (.int (nI (i + 1)))]) (st' := []) (h' := h) (fun _ => rfl) ?_
    exact so_mr1 C c (i + 1) z (fun g hg hd => by
      by_cases e : g = i
      · subst e; exact absurd hd zi
      · exact H g (by omega) hd)
  refine rt_k (k := 1) (pc' := 22) (L' := [some (.ref 9), some (.int (msk c)), some (.int (nI i))]) (st' := [.ref 9]) (h' := h) (fun _ => rfl) ?_
  refine rt_gf rfl c9 rfl rfl ?_
  refine rt_k (k := 1) (pc' := 26) (L' := [some (.ref 9), some (.int (msk c)), some (.int (nI i))]) (st' := [.int (nI i), .ref 10]) (h' := h) (fun _ => rfl) ?_
  refine rt_ialN rfl c10 rfl (by omega) (by decide) ((HM i z).1) ?_
  refine rt_k (k := 1) (pc' := 28) (L' := [some (.ref 9), some (.int (msk c)), some (.int (nI i))]) (st' := [.int (msk c), .int (msk (mem i))]) (h' := h) (fun _ => rfl) ?_
  refine rt_mand rfl ?_
  refine rt_mn rfl (fun zz => ?_) (fun zz => ?_)
  rotate_left
  ·
    refine rt_k (k := 1) (pc' := 33) (L' := [some (.ref 9), some (.int (msk c)), some (.int (nI i))]) (st' := [.int (nI 0)]) (h' := h) (fun _ => rfl) ?_
    exact rt_r (v := some (.int (nI 0))) rfl rfl (⟨ret0 (fun w => by obtain ⟨q, q1, q2, q3⟩ := w i z zi; exact zz q q1 ⟨q2, q3⟩), rfl⟩)
  refine rt_inc (c := 1) rfl rfl ?_
  refine rt_k (k := 1) (pc' := 2) (L' := [some (.ref 9), some (.int (msk c)), some (.int (nI (i + 1)))]) (st' := []) (h' := h) (fun _ => rfl) ?_
  exact so_mr1 C c (i + 1) z (fun g hg hd => by
    by_cases e : g = i
    · subst e; obtain ⟨q, q1, q2, q3⟩ := zz; exact ⟨q, q1, q2, q3⟩
    · exact H g (by omega) hd)
termination_by G - i
theorem so_meets (C : sR h n G mem gn riv ned rg op li le so fo) (c : Nat → Prop) : rt_ X (d + 1) 92 0 [some (.ref 9), some (.int (msk c)), none] [] h (fun v h' => v = some (.int (tB (mRt G mem rg c))) ∧ h' = h) := by
  refine rt_k (k := 2) (pc' := 2) (L' := [some (.ref 9), some (.int (msk c)), some (.int (nI 0))]) (st' := []) (h' := h) (fun _ => rfl) ?_
  exact so_mr1 C c 0 (Nat.zero_le _) (fun g hg => absurd hg (Nat.not_lt_zero _))
end SO

