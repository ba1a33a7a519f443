/-! GENERATIONS, 3: who needs whom by way of others. -/
section RE2
variable {X : Nat × (Nat → Int32)} {d : Nat} {h : List va_E} {Q : Option Value → List va_E → Prop}
theorem gen_re2 {h0 : List va_E} {sa m ra : Nat} {S : List kL} (HS : sAr h0 sa m S) (hra : h0.length ≤ ra) (i : Nat) (h : List va_E) (R : Nat → Nat → Prop) (E : ex_ h0 h) (C : rA h ra S.length R) (hi : i ≤ S.length) (hR : ∀ a, a < S.length → ∀ q, q < 32 → (R a q ↔ a < i ∧ ndR S a q)) (k : ∀ h' R' x y, fr_ (fun z => z = ra) h h' → ex_ h0 h' → rA h' ra S.length R' → (∀ a, a < S.length → ∀ q, q < 32 → (R' a q ↔ ndR S a q)) → rt_ X (d + 1) 8 61 [some (.ref sa), some (.int (nI S.length)), some (.ref ra), x, y] [] h' Q) (w : Option Value) : rt_ X (d + 1) 8 6 [some (.ref sa), some (.int (nI S.length)), some (.ref ra), some (.int (nI i)), w] [] h Q := by
  have hl8 : S.length ≤ 8 := by obtain ⟨F, zs, hl, hm, HF⟩ := HS; omega
  refine rt_k (k := 2) (pc' := 8) (L' := [some (.ref sa), some (.int (nI S.length)), some (.ref ra), some (.int (nI i)), w]) (st' := [.int (nI S.length), .int (nI i)]) (h' := h) (fun _ => rfl) ?_
  refine rt_ige rfl (by omega) (by omega) (fun z => ?_) (fun z => ?_)
  ·
    exact k h R _ _ fr_rf E C (fun a ha q hq => (hR a ha q hq).trans ⟨fun w => w.2, fun w => ⟨by omega, w⟩⟩)
  refine rt_k (k := 2) (pc' := 14) (L' := [some (.ref sa), some (.int (nI S.length)), some (.ref ra), some (.int (nI i)), some (.int (nI 0))]) (st' := []) (h' := h) (fun _ => by cases w <;> rfl) ?_
  refine gen_re1 HS hra z 0 h R E C (Nat.zero_le _) (fun a ha q hq => (hR a ha q hq).trans ⟨Or.inl, fun w => w.elim id (fun w => absurd w.2.1 (Nat.not_lt_zero _))⟩) (fun h1 R1 f1 E1 C1 hR1 => ?_)
  refine rt_inc (c := 1) rfl rfl ?_
  refine rt_n rfl ?_
  exact gen_re2 HS hra (i + 1) h1 R1 E1 C1 z hR1 (fun h' R' x y f2 => k h' R' x y (fr_tr f1 f2)) _
termination_by S.length - i
theorem wR_b {S : List kL} {b i : Nat} : wR S (b + 1) i b ↔ wR S b i b := ⟨fun w => w.elim id (fun w => w.1), Or.inl⟩
theorem wR_r {S : List kL} {b q : Nat} : wR S (b + 1) b q ↔ wR S b b q := ⟨fun w => w.elim id (fun w => w.2), Or.inl⟩
theorem gen_re3 {h0 : List va_E} {sa ra : Nat} {S : List kL} (hl8 : S.length ≤ 8) (hra : h0.length ≤ ra) {b : Nat} (hb : b < S.length) (i : Nat) (h : List va_E) (R : Nat → Nat → Prop) (E : ex_ h0 h) (C : rA h ra S.length R) (hi : i ≤ S.length) (hR : ∀ a, a < S.length → ∀ q, q < 32 → (R a q ↔ (a < i ∧ wR S (b + 1) a q) ∨ (i ≤ a ∧ wR S b a q))) (k : ∀ h' R', fr_ (fun z => z = ra) h h' → ex_ h0 h' → rA h' ra S.length R' → (∀ a, a < S.length → ∀ q, q < 32 → (R' a q ↔ wR S (b + 1) a q)) → rt_ X (d + 1) 8 104 [some (.ref sa), some (.int (nI S.length)), some (.ref ra), some (.int (nI b)), some (.int (nI S.length))] [] h' Q) : rt_ X (d + 1) 8 71 [some (.ref sa), some (.int (nI S.length)), some (.ref ra), some (.int (nI b)), some (.int (nI i))] [] h Q := by
  obtain ⟨f, c, hf⟩ := id C
  refine rt_k (k := 2) (pc' := 74) (L' := [some (.ref sa), some (.int (nI S.length)), some (.ref ra), some (.int (nI b)), some (.int (nI i))]) (st' := [.int (nI S.length), .int (nI i)]) (h' := h) (fun _ => rfl) ?_
  refine rt_ige rfl (by omega) (by omega) (fun z => ?_) (fun z => ?_)
  ·
    have e : i = S.length := by omega
    subst e
    exact k h R fr_rf E C (fun a ha q hq => (hR a ha q hq).trans ⟨fun w => w.elim (fun w => w.2) (fun w => absurd w.1 (by omega)), fun w => Or.inl ⟨ha, w⟩⟩)
  refine rt_k (k := 2) (pc' := 80) (L' := [some (.ref sa), some (.int (nI S.length)), some (.ref ra), some (.int (nI b)), some (.int (nI i))]) (st' := [.int (nI i), .ref ra]) (h' := h) (fun _ => rfl) ?_
  refine rt_ialN rfl c rfl (by omega) (by omega) (hf i z) ?_
  refine rt_k (k := 1) (pc' := 82) (L' := [some (.ref sa), some (.int (nI S.length)), some (.ref ra), some (.int (nI b)), some (.int (nI i))]) (st' := [.int (nI b), .int (msk (R i))]) (h' := h) (fun _ => rfl) ?_
  refine rt_cE rfl rfl (isin (by omega) (R i)) ?_
  refine rt_pe rfl (fun z1 => ?_) (fun z1 => ?_)
  ·
    refine rt_inc (c := 1) rfl rfl ?_
    refine rt_k (k := 1) (pc' := 71) (L' := [some (.ref sa), some (.int (nI S.length)), some (.ref ra), some (.int (nI b)), some (.int (nI (i + 1)))]) (st' := []) (h' := h) (fun _ => rfl) ?_
    refine gen_re3 hl8 hra hb (i + 1) h R E C z (fun a ha q hq => (hR a ha q hq).trans ?_) k
    have n1 : ¬ wR S b i b := fun w => z1 ((hR i z b (by omega)).mpr (Or.inr ⟨Nat.le_refl _, w⟩))
    constructor
    · rintro (w | w)
      · exact Or.inl ⟨by omega, w.2⟩
      · by_cases e : a = i
        · subst e; exact Or.inl ⟨by omega, Or.inl w.2⟩
        · exact Or.inr ⟨by omega, w.2⟩
    · rintro (w | w)
      · by_cases e : a = i
        · subst e; exact Or.inr ⟨Nat.le_refl _, w.2.elim id (fun w => absurd w.1 n1)⟩
        · exact Or.inl ⟨by omega, w.2⟩
      · exact Or.inr ⟨by omega, w.2⟩
  refine rt_k (k := 3) (pc' := 92) (L' := [some (.ref sa), some (.int (nI S.length)), some (.ref ra), some (.int (nI b)), some (.int (nI i))]) (st' := [.int (nI i), .ref ra, .int (nI i), .ref ra]) (h' := h) (fun _ => rfl) ?_
  refine rt_ialN rfl c rfl (by omega) (by omega) (hf i z) ?_
  refine rt_k (k := 2) (pc' := 95) (L' := [some (.ref sa), some (.int (nI S.length)), some (.ref ra), some (.int (nI b)), some (.int (nI i))]) (st' := [.int (nI b), .ref ra, .int (msk (R i)), .int (nI i), .ref ra]) (h' := h) (fun _ => rfl) ?_
  refine rt_ialN rfl c rfl (by omega) (by omega) (hf b hb) ?_
  refine rt_mor rfl ?_
  refine rt_iasN rfl c rfl (by omega) (by omega) ?_
  have f_1 : fr_ (fun z => z = ra) h (h.set ra (.inl (2, S.length, .inl (upd f i (msk (fun ι => (R i) ι ∨ (R b) ι)))))) := fr_set (e' := .inl (2, S.length, .inl (upd f i (msk (fun ι => (R i) ι ∨ (R b) ι))))) c (by rfl) (by first | decide | simp)
  have c_2 := hs_self (e' := .inl (2, S.length, .inl (upd f i (msk (fun ι => (R i) ι ∨ (R b) ι))))) c
  refine rt_inc (c := 1) rfl rfl ?_
  refine rt_k (k := 1) (pc' := 71) (L' := [some (.ref sa), some (.int (nI S.length)), some (.ref ra), some (.int (nI b)), some (.int (nI (i + 1)))]) (st' := []) (h' := (h.set ra (.inl (2, S.length, .inl (upd f i (msk (fun ι => (R i) ι ∨ (R b) ι))))))) (fun _ => rfl) ?_
  have y1 : wR S b i b := by
    rcases (hR i z b (by omega)).mp z1 with w | w
    · omega
    · exact w.2
  have yb : ∀ q, q < 32 → (R b q ↔ wR S b b q) := fun q hq => by
    rw [hR b hb q hq]
    constructor
    · rintro (w | w)
      · exact wR_r.mp w.2
      · exact w.2
    · intro w
      by_cases e : b < i
      · exact Or.inl ⟨e, Or.inl w⟩
      · exact Or.inr ⟨by omega, w⟩
  refine gen_re3 hl8 hra hb (i + 1) _ (fun a q => R a q ∨ (a = i ∧ R b q)) (ex_st E hra) ⟨_, c_2, fun a ha => ?_⟩ z (fun a ha q hq => ?_) (fun h' R' f1 => k h' R' (fr_tr f_1 f1))
  · unfold upd
    by_cases e : a = i
    · rw [if_pos e]; subst e; exact msk_cg (fun q _ => or_congr Iff.rfl ⟨fun w => ⟨rfl, w⟩, fun w => w.2⟩)
    · rw [if_neg e, hf a ha]; exact msk_cg (fun q _ => ⟨Or.inl, fun w => w.elim id (fun w => absurd w.1 e)⟩)
  · show R a q ∨ (a = i ∧ R b q) ↔ _
    rw [hR a ha q hq, yb q hq]
    constructor
    · rintro ((w | w) | ⟨rfl, w⟩)
      · exact Or.inl ⟨by omega, w.2⟩
      · by_cases e : a = i
        · subst e; exact Or.inl ⟨by omega, Or.inl w.2⟩
        · exact Or.inr ⟨by omega, w.2⟩
      · exact Or.inl ⟨by omega, Or.inr ⟨y1, w⟩⟩
    · rintro (w | w)
      · by_cases e : a = i
        · subst e
          rcases w.2 with w | w
          · exact Or.inl (Or.inr ⟨Nat.le_refl _, w⟩)
          · exact Or.inr ⟨rfl, w.2⟩
        · exact Or.inl (Or.inl ⟨by omega, w.2⟩)
      · exact Or.inl (Or.inr ⟨by omega, w.2⟩)
termination_by S.length - i
theorem gen_re4 {h0 : List va_E} {sa ra : Nat} {S : List kL} (hl8 : S.length ≤ 8) (hra : h0.length ≤ ra) (b : Nat) (h : List va_E) (R : Nat → Nat → Prop) (E : ex_ h0 h) (C : rA h ra S.length R) (hb : b ≤ S.length) (hR : ∀ a, a < S.length → ∀ q, q < 32 → (R a q ↔ wR S b a q)) (k : ∀ h' x y, fr_ (fun z => z = ra) h h' → ex_ h0 h' → rA h' ra S.length (wR S S.length) → rt_ X (d + 1) 8 110 [some (.ref sa), some (.int (nI S.length)), some (.ref ra), x, y] [] h' Q) (w : Option Value) : rt_ X (d + 1) 8 63 [some (.ref sa), some (.int (nI S.length)), some (.ref ra), some (.int (nI b)), w] [] h Q := by
  refine rt_k (k := 2) (pc' := 65) (L' := [some (.ref sa), some (.int (nI S.length)), some (.ref ra), some (.int (nI b)), w]) (st' := [.int (nI S.length), .int (nI b)]) (h' := h) (fun _ => rfl) ?_
  refine rt_ige rfl (by omega) (by omega) (fun z => ?_) (fun z => ?_)
  ·
    have e : b = S.length := by omega
    subst e
    exact k h _ _ fr_rf E (C.cg hR)
  refine rt_k (k := 2) (pc' := 71) (L' := [some (.ref sa), some (.int (nI S.length)), some (.ref ra), some (.int (nI b)), some (.int (nI 0))]) (st' := []) (h' := h) (fun _ => by cases w <;> rfl) ?_
  refine gen_re3 hl8 hra z 0 h R E C (Nat.zero_le _) (fun a ha q hq => (hR a ha q hq).trans ⟨fun w => Or.inr ⟨Nat.zero_le _, w⟩, fun w => w.elim (fun w => absurd w.1 (Nat.not_lt_zero _)) (fun w => w.2)⟩) (fun h1 R1 f1 E1 C1 hR1 => ?_)
  refine rt_inc (c := 1) rfl rfl ?_
  refine rt_n rfl ?_
  exact gen_re4 hl8 hra (b + 1) h1 R1 E1 C1 z hR1 (fun h' x y f2 => k h' x y (fr_tr f1 f2)) _
termination_by S.length - b
theorem gen_reach {sa m : Nat} {S : List kL} (HS : sAr h sa m S) : rt_ X (d + 1) 8 0 [some (.ref sa), some (.int (nI S.length)), none, none, none] [] h (fun v h' => ∃ ra, v = some (.ref ra) ∧ h.length ≤ ra ∧ gr (fun _ => False) 1 S.length h h' ∧ rA h' ra S.length (wR S S.length)) := by
  have hl8 : S.length ≤ 8 := by obtain ⟨F, zs, hl, hm, HF⟩ := HS; omega
  refine rt_k (k := 1) (pc' := 1) (L' := [some (.ref sa), some (.int (nI S.length)), none, none, none]) (st' := [.int (nI S.length)]) (h' := h) (fun _ => rfl) ?_
  refine rt_nwI rfl rfl (by omega) ?_
  have g_3 : gr (fun _ => False) 1 (S.length) h (h ++ [.inl (2, S.length, .inl (fun _ => 0))]) := gr_mo (gr_tr (gr_rf (h := h)) (gr_app (.inl (2, S.length, .inl (fun _ => 0))))) (fun _ q => q) (by first | exact Nat.le_refl _ | omega) (by first | exact Nat.le_refl _ | (simp only [ab_z]; omega))
  have c_4 : ((h ++ [.inl (2, S.length, .inl (fun _ => 0))]))[h.length]? = some (.inl (2, S.length, .inl (fun _ => 0))) := ha_new
  refine rt_k (k := 3) (pc' := 6) (L' := [some (.ref sa), some (.int (nI S.length)), some (.ref h.length), some (.int (nI 0)), none]) (st' := []) (h' := (h ++ [.inl (2, S.length, .inl (fun _ => 0))])) (fun _ => rfl) ?_
  have g1 := g_3
  refine gen_re2 HS (Nat.le_refl _) 0 _ (fun _ _ => False) (ex_app _ _) ⟨_, c_4, fun i _ => by rw [msk_0]⟩ (Nat.zero_le _) (fun a ha q hq => ⟨fun w => absurd w id, fun w => absurd w.1 (Nat.not_lt_zero _)⟩) (fun h1 R1 x y f1 E1 C1 hR1 => ?_) _
  refine rt_k (k := 2) (pc' := 63) (L' := [some (.ref sa), some (.int (nI S.length)), some (.ref h.length), some (.int (nI 0)), y]) (st' := []) (h' := h1) (fun _ => by cases y <;> rfl) ?_
  refine gen_re4 hl8 (Nat.le_refl _) 0 h1 R1 E1 C1 (Nat.zero_le _) hR1 (fun h2 x y f2 E2 C2 => ?_) _
  refine rt_n rfl ?_
  refine rt_r (v := some (.ref h.length)) rfl rfl ⟨h.length, rfl, Nat.le_refl _, ?_, C2⟩
  have f12 := fr_tr f1 f2
  refine ⟨?_, ?_, ?_, fun k hk _ => ?_⟩
  · rw [f12.1]; exact g1.1
  · rw [f12.1]; exact g1.2.1
  · rw [f12.2.1]; exact g1.2.2.1
  · rw [f12.2.2 k (by omega)]; exact g1.2.2.2 k hk id
/-- need is passed on -/
theorem wR_tr {S : List kL} : ∀ (b : Nat) {i j k : Nat}, k < b → wR S b i k → wR S b k j → wR S b i j
  | 0, _, _, _, h, _, _ => absurd h (Nat.not_lt_zero _)
  | b + 1, i, j, k, h, u, v => by
    by_cases e : k = b
    · subst e
      exact Or.inr ⟨wR_b.mp u, wR_r.mp v⟩
    · have hk : k < b := by omega
      rcases u with u | u
      · rcases v with v | v
        · exact Or.inl (wR_tr b hk u v)
        · exact Or.inr ⟨wR_tr b hk u v.1, v.2⟩
      · rcases v with v | v
        · exact Or.inr ⟨u.1, wR_tr b hk u.2 v⟩
        · exact Or.inr ⟨u.1, v.2⟩
theorem wR_lt {S : List kL} : ∀ (b : Nat) {i j : Nat}, wR S b i j → i < S.length ∧ j < S.length
  | 0, _, _, ⟨r, s, h1, h2, _⟩ => ⟨gt_lt h1, gt_lt h2⟩
  | b + 1, i, j, h => by
    rcases h with h | h
    · exact wR_lt b h
    · exact ⟨(wR_lt b h.1).1, (wR_lt b h.2).2⟩
end RE2

