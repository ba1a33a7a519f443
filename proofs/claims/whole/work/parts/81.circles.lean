/-! GENERATIONS, 2: new rows; circles; what needs what. -/
section NW
variable {X : Nat × (Nat → Int32)} {d M pc r : Nat} {L : ab_Lo} {st : List Value} {h : List va_E} {Q : Option Value → List va_E → Prop}
theorem nw_0 {n : Nat} (hn : n ≤ 1000000) : ¬ (nI n < 0 ∨ 1000000 < (nI n).toNatClampNeg) := by
  rintro (q | q)
  · exact nI_pos (by omega) q
  · rw [nI_clamp (by omega)] at q; omega
theorem rt_nwI {n : Nat} (hi : ab_k (tb_il M) pc = some (.newarray .int, r)) (ht : tb_at[r]? = some .int) (hn : n ≤ 1000000) (k : rt_ X d M (pc + 2) L (.ref h.length :: st) (h ++ [.inl (r, n, .inl (fun _ => 0))]) Q) : rt_ X d M pc L (.int (nI n) :: st) h Q :=
  rt_s1 hi (by simp only [ab_x, ab_n]; rw [if_neg (nw_0 hn), if_pos ht, nI_clamp (by omega)]) k
theorem rt_na {n idx : Nat} (hi : ab_k (tb_il M) pc = some (.anewarray idx, r)) (ht : ab_ro r = true) (hn : n ≤ 1000000) (k : rt_ X d M (pc + 3) L (.ref h.length :: st) (h ++ [.inl (r, n, .inr (.inr (.inr (.inr (fun _ => none)))))]) Q) : rt_ X d M pc L (.int (nI n) :: st) h Q :=
  rt_s1 hi (by simp only [ab_x, ab_n]; rw [if_neg (nw_0 hn), if_pos ht, nI_clamp (by omega)]) k
end NW
theorem ex_st {h0 h : List va_E} {a : Nat} {e : va_E} (E : ex_ h0 h) (ha : h0.length ≤ a) : ex_ h0 (h.set a e) := fun k x q => by
  have hk : a ≠ k := by have := hc_lt q.2; omega
  exact ⟨q.1, by rw [List.getElem?_set_ne hk]; exact (E k x q).2⟩
section RE
variable {X : Nat × (Nat → Int32)} {d : Nat} {h : List va_E} {Q : Option Value → List va_E → Prop}
def rA (h : List va_E) (ra n : Nat) (R : Nat → Nat → Prop) : Prop := ∃ f : Nat → Int32, h[ra]? = some (.inl (2, n, .inl f)) ∧ ∀ i, i < n → f i = msk (R i)
theorem rA.cg {ra n : Nat} {R R' : Nat → Nat → Prop} (C : rA h ra n R) (e : ∀ i, i < n → ∀ q, q < 32 → (R i q ↔ R' i q)) : rA h ra n R' := by
  obtain ⟨f, c, hf⟩ := C
  exact ⟨f, c, fun i hi => (hf i hi).trans (msk_cg (e i hi))⟩
def cir (R : Nat → Nat → Prop) (n m j : Nat) : Prop := j = m ∨ (j < n ∧ R m j ∧ R j m)
theorem gen_ci1 {ra n : Nat} {R : Nat → Nat → Prop} (C : rA h ra n R) (hn : n ≤ 8) {m : Nat} (hm : m < n) (i : Nat) (hi : i ≤ n) (acc : Nat → Prop) (ha : ∀ j, j < 32 → (acc j ↔ j = m ∨ (j < i ∧ R m j ∧ R j m))) : rt_ X (d + 1) 12 7 [some (.ref ra), some (.int (nI n)), some (.int (nI m)), some (.int (msk acc)), some (.int (nI i))] [] h (fun v h' => v = some (.int (msk (cir R n m))) ∧ h' = h) := by
  obtain ⟨f, c, hf⟩ := id C
  refine rt_k (k := 2) (pc' := 10) (L' := [some (.ref ra), some (.int (nI n)), some (.int (nI m)), some (.int (msk acc)), some (.int (nI i))]) (st' := [.int (nI n), .int (nI i)]) (h' := h) (fun _ => rfl) ?_
  refine rt_ige rfl (by omega) (by omega) (fun z => ?_) (fun z => ?_)
  ·
    have e : n = i := by omega
    subst e
    refine rt_k (k := 1) (pc' := 49) (L' := [some (.ref ra), some (.int (nI n)), some (.int (nI m)), some (.int (msk acc)), some (.int (nI n))]) (st' := [.int (msk acc)]) (h' := h) (fun _ => rfl) ?_
    exact rt_r (v := some (.int (msk acc))) rfl rfl (⟨mk_r ha, rfl⟩)
  refine rt_k (k := 2) (pc' := 15) (L' := [some (.ref ra), some (.int (nI n)), some (.int (nI m)), some (.int (msk acc)), some (.int (nI i))]) (st' := [.int (nI m), .ref ra]) (h' := h) (fun _ => rfl) ?_
  refine rt_ialN rfl c rfl (by omega) (by omega) (hf m hm) ?_
  refine rt_k (k := 1) (pc' := 18) (L' := [some (.ref ra), some (.int (nI n)), some (.int (nI m)), some (.int (msk acc)), some (.int (nI i))]) (st' := [.int (nI i), .int (msk (R m))]) (h' := h) (fun _ => rfl) ?_
  refine rt_cE rfl rfl (isin (by omega) (R m)) ?_
  refine rt_pe rfl (fun z1 => ?_) (fun z1 => ?_)
  ·
    refine rt_inc (c := 1) rfl rfl ?_
    refine rt_k (k := 1) (pc' := 7) (L' := [some (.ref ra), some (.int (nI n)), some (.int (nI m)), some (.int (msk acc)), some (.int (nI (i + 1)))]) (st' := []) (h' := h) (fun _ => rfl) ?_
    refine gen_ci1 C hn hm (i + 1) z acc (fun j hj => (ha j hj).trans (or_congr Iff.rfl ⟨fun w => ⟨by omega, w.2⟩, fun w => ⟨?_, w.2⟩⟩))
    by_cases e : j = i
    · subst e; exact absurd w.2.1 z1
    · omega
  refine rt_k (k := 2) (pc' := 27) (L' := [some (.ref ra), some (.int (nI n)), some (.int (nI m)), some (.int (msk acc)), some (.int (nI i))]) (st' := [.int (nI i), .ref ra]) (h' := h) (fun _ => rfl) ?_
  refine rt_ialN rfl c rfl (by omega) (by omega) (hf i z) ?_
  refine rt_k (k := 1) (pc' := 29) (L' := [some (.ref ra), some (.int (nI n)), some (.int (nI m)), some (.int (msk acc)), some (.int (nI i))]) (st' := [.int (nI m), .int (msk (R i))]) (h' := h) (fun _ => rfl) ?_
  refine rt_cE rfl rfl (isin (by omega) (R i)) ?_
  refine rt_pe rfl (fun z2 => ?_) (fun z2 => ?_)
  ·
    refine rt_inc (c := 1) rfl rfl ?_
    refine rt_k (k := 1) (pc' := 7) (L' := [some (.ref ra), some (.int (nI n)), some (.int (nI m)), some (.int (msk acc)), some (.int (nI (i + 1)))]) (st' := []) (h' := h) (fun _ => rfl) ?_
    refine gen_ci1 C hn hm (i + 1) z acc (fun j hj => (ha j hj).trans (or_congr Iff.rfl ⟨fun w => ⟨by omega, w.2⟩, fun w => ⟨?_, w.2⟩⟩))
    by_cases e : j = i
    · subst e; exact absurd w.2.2 z2
    · omega
  refine rt_k (k := 3) (pc' := 39) (L' := [some (.ref ra), some (.int (nI n)), some (.int (nI m)), some (.int (msk acc)), some (.int (nI i))]) (st' := [.int (nI i), .int (nI 1), .int (msk acc)]) (h' := h) (fun _ => rfl) ?_
  refine rt_mbit rfl (by omega) ?_
  refine rt_mor rfl ?_
  refine rt_k (k := 1) (pc' := 42) (L' := [some (.ref ra), some (.int (nI n)), some (.int (nI m)), some (.int (msk (fun ι => acc ι ∨ (ι = i)))), some (.int (nI i))]) (st' := []) (h' := h) (fun _ => rfl) ?_
  refine rt_inc (c := 1) rfl rfl ?_
  refine rt_k (k := 1) (pc' := 7) (L' := [some (.ref ra), some (.int (nI n)), some (.int (nI m)), some (.int (msk (fun ι => acc ι ∨ (ι = i)))), some (.int (nI (i + 1)))]) (st' := []) (h' := h) (fun _ => rfl) ?_
  refine gen_ci1 C hn hm (i + 1) z _ (fun j hj => ⟨?_, ?_⟩)
  · rintro (w | w)
    · exact ((ha j hj).mp w).imp id (fun w => ⟨by omega, w.2⟩)
    · subst w; exact Or.inr ⟨by omega, z1, z2⟩
  · rintro (w | w)
    · exact Or.inl ((ha j hj).mpr (Or.inl w))
    · by_cases e : j = i
      · exact Or.inr e
      · exact Or.inl ((ha j hj).mpr (Or.inr ⟨by omega, w.2⟩))
termination_by n - i
theorem gen_circle {ra n : Nat} {R : Nat → Nat → Prop} (C : rA h ra n R) (hn : n ≤ 8) {m : Nat} (hm : m < n) : rt_ X (d + 1) 12 0 [some (.ref ra), some (.int (nI n)), some (.int (nI m)), none, none] [] h (fun v h' => v = some (.int (msk (cir R n m))) ∧ h' = h) := by
  refine rt_k (k := 2) (pc' := 2) (L' := [some (.ref ra), some (.int (nI n)), some (.int (nI m)), none, none]) (st' := [.int (nI m), .int (nI 1)]) (h' := h) (fun _ => rfl) ?_
  refine rt_mbit rfl (by omega) ?_
  refine rt_k (k := 3) (pc' := 7) (L' := [some (.ref ra), some (.int (nI n)), some (.int (nI m)), some (.int (msk (fun ι => ι = m))), some (.int (nI 0))]) (st' := []) (h' := h) (fun _ => rfl) ?_
  exact gen_ci1 C hn hm 0 (Nat.zero_le _) _ (fun j hj => ⟨Or.inl, fun w => w.elim id (fun w => absurd w.1 (Nat.not_lt_zero _))⟩)
def rdy (R : Nat → Nat → Prop) (n : Nat) (pl : Nat → Prop) (i : Nat) : Prop := ¬ pl i ∧ ∀ q, q < 32 → ¬ ((R i q ∧ ¬ pl q) ∧ ¬ cir R n i q)
noncomputable def frF (R : Nat → Nat → Prop) (n : Nat) (pl : Nat → Prop) : Nat → Nat → Nat → Prop
  | 0, _ => fun _ => False
  | f + 1, i => @ite (Nat → Prop) (rdy R n pl i) (Classical.propDecidable _) (cir R n i) (frF R n pl f (i + 1))
theorem gen_fr1 {ra n : Nat} {R : Nat → Nat → Prop} {pl : Nat → Prop} (C : rA h ra n R) (hn : n ≤ 8) (f i : Nat) (hi : i + f = n) (x : Option Value) : rt_ X (d + 2) 11 2 [some (.ref ra), some (.int (nI n)), some (.int (msk pl)), some (.int (nI i)), x] [] h (fun v h' => v = some (.int (msk (frF R n pl f i))) ∧ h' = h) := by
  obtain ⟨g, c, hf⟩ := id C
  refine rt_k (k := 2) (pc' := 4) (L' := [some (.ref ra), some (.int (nI n)), some (.int (msk pl)), some (.int (nI i)), x]) (st' := [.int (nI n), .int (nI i)]) (h' := h) (fun _ => rfl) ?_
  refine rt_ige rfl (by omega) (by omega) (fun z => ?_) (fun z => ?_)
  ·
    have e : f = 0 := by omega
    subst e
    refine rt_k (k := 1) (pc' := 48) (L' := [some (.ref ra), some (.int (nI n)), some (.int (msk pl)), some (.int (nI i)), x]) (st' := [.int (nI 0)]) (h' := h) (fun _ => rfl) ?_
    exact rt_r (v := some (.int (nI 0))) rfl rfl (⟨by rw [frF, msk_0]; rfl, rfl⟩)
  obtain ⟨f, rfl⟩ : ∃ f', f = f' + 1 := ⟨f - 1, by omega⟩
  refine rt_k (k := 3) (pc' := 10) (L' := [some (.ref ra), some (.int (nI n)), some (.int (msk pl)), some (.int (nI i)), x]) (st' := [.int (nI i), .int (nI n), .ref ra]) (h' := h) (fun _ => rfl) ?_
  refine rt_cE rfl rfl (gen_circle C hn z) ?_
  refine rt_k (k := 1) (pc' := 15) (L' := [some (.ref ra), some (.int (nI n)), some (.int (msk pl)), some (.int (nI i)), some (.int (msk (cir R n i)))]) (st' := []) (h' := h) (fun _ => by cases x <;> rfl) ?_
  refine rt_k (k := 2) (pc' := 17) (L' := [some (.ref ra), some (.int (nI n)), some (.int (msk pl)), some (.int (nI i)), some (.int (msk (cir R n i)))]) (st' := [.int (nI i), .int (msk pl)]) (h' := h) (fun _ => rfl) ?_
  refine rt_cE rfl rfl (isin (by omega) pl) ?_
  refine rt_pn rfl (fun z1 => ?_) (fun z1 => ?_)
  ·
    refine rt_inc (c := 1) rfl rfl ?_
    refine rt_k (k := 1) (pc' := 2) (L' := [some (.ref ra), some (.int (nI n)), some (.int (msk pl)), some (.int (nI (i + 1))), some (.int (msk (cir R n i)))]) (st' := []) (h' := h) (fun _ => rfl) ?_
    rw [frF, if_neg (fun w => w.1 z1)]
    exact gen_fr1 C hn f (i + 1) (by omega) _
  refine rt_k (k := 2) (pc' := 25) (L' := [some (.ref ra), some (.int (nI n)), some (.int (msk pl)), some (.int (nI i)), some (.int (msk (cir R n i)))]) (st' := [.int (nI i), .ref ra]) (h' := h) (fun _ => rfl) ?_
  refine rt_ialN rfl c rfl (by omega) (by omega) (hf i z) ?_
  refine rt_k (k := 2) (pc' := 28) (L' := [some (.ref ra), some (.int (nI n)), some (.int (msk pl)), some (.int (nI i)), some (.int (msk (cir R n i)))]) (st' := [.int (-1), .int (msk pl), .int (msk (R i))]) (h' := h) (fun _ => rfl) ?_
  refine rt_mnot rfl ?_
  refine rt_mand rfl ?_
  refine rt_k (k := 2) (pc' := 33) (L' := [some (.ref ra), some (.int (nI n)), some (.int (msk pl)), some (.int (nI i)), some (.int (msk (cir R n i)))]) (st' := [.int (-1), .int (msk (cir R n i)), .int (msk (fun ι => (R i) ι ∧ (¬ pl ι)))]) (h' := h) (fun _ => rfl) ?_
  refine rt_mnot rfl ?_
  refine rt_mand rfl ?_
  refine rt_mn rfl (fun z2 => ?_) (fun z2 => ?_)
  ·
    refine rt_inc (c := 1) rfl rfl ?_
    refine rt_k (k := 1) (pc' := 2) (L' := [some (.ref ra), some (.int (nI n)), some (.int (msk pl)), some (.int (nI (i + 1))), some (.int (msk (cir R n i)))]) (st' := []) (h' := h) (fun _ => rfl) ?_
    rw [frF, if_neg (fun w => by obtain ⟨q, q1, q2⟩ := z2; exact w.2 q q1 q2)]
    exact gen_fr1 C hn f (i + 1) (by omega) _
  rw [frF, if_pos ⟨z1, z2⟩]
  refine rt_k (k := 1) (pc' := 40) (L' := [some (.ref ra), some (.int (nI n)), some (.int (msk pl)), some (.int (nI i)), some (.int (msk (cir R n i)))]) (st' := [.int (msk (cir R n i))]) (h' := h) (fun _ => rfl) ?_
  exact rt_r (v := some (.int (msk (cir R n i)))) rfl rfl (⟨rfl, rfl⟩)
termination_by f
theorem gen_first {ra n : Nat} {R : Nat → Nat → Prop} {pl : Nat → Prop} (C : rA h ra n R) (hn : n ≤ 8) : rt_ X (d + 2) 11 0 [some (.ref ra), some (.int (nI n)), some (.int (msk pl)), none, none] [] h (fun v h' => v = some (.int (msk (frF R n pl n 0))) ∧ h' = h) := by
  refine rt_k (k := 2) (pc' := 2) (L' := [some (.ref ra), some (.int (nI n)), some (.int (msk pl)), some (.int (nI 0)), none]) (st' := []) (h' := h) (fun _ => rfl) ?_
  exact gen_fr1 C hn n 0 (by omega) _
/-- who needs whom, of a set in its order -/
def ndR (S : List kL) (i j : Nat) : Prop := ∃ r s, S[i]? = some r ∧ S[j]? = some s ∧ ∃ e ∈ lNe r, nmI e.1 = nmI (lNm s)
def wR (S : List kL) : Nat → Nat → Nat → Prop
  | 0 => ndR S
  | b + 1 => fun i j => wR S b i j ∨ (wR S b i b ∧ wR S b b j)
def sAr (h : List va_E) (sa m : Nat) (S : List kL) : Prop := ∃ F : Nat → Option Nat, z_ h sa (.inl (5, m, .inr (.inr (.inr (.inr F))))) ∧ S.length ≤ m ∧ m ≤ 8 ∧ ∀ (i : Nat) r, S[i]? = some r → ∃ a, F i = some a ∧ zL h a r
theorem gen_re1 {h0 : List va_E} {sa m ra : Nat} {S : List kL} (HS : sAr h0 sa m S) (hra : h0.length ≤ ra) {i : Nat} (hi : i < S.length) (j : Nat) (h : List va_E) (R : Nat → Nat → Prop) (E : ex_ h0 h) (C : rA h ra S.length R) (hj : j ≤ S.length) (hR : ∀ a, a < S.length → ∀ q, q < 32 → (R a q ↔ (a < i ∧ ndR S a q) ∨ (a = i ∧ q < j ∧ ndR S a q))) (k : ∀ h' R', fr_ (fun z => z = ra) h h' → ex_ h0 h' → rA h' ra S.length R' → (∀ a, a < S.length → ∀ q, q < 32 → (R' a q ↔ a < i + 1 ∧ ndR S a q)) → rt_ X (d + 1) 8 55 [some (.ref sa), some (.int (nI S.length)), some (.ref ra), some (.int (nI i)), some (.int (nI S.length))] [] h' Q) : rt_ X (d + 1) 8 14 [some (.ref sa), some (.int (nI S.length)), some (.ref ra), some (.int (nI i)), some (.int (nI j))] [] h Q := by
  obtain ⟨F, zs, hl, hm, HF⟩ := id HS
  obtain ⟨f, c, hf⟩ := id C
  have cs := (E _ _ zs).2
  refine rt_k (k := 2) (pc' := 17) (L' := [some (.ref sa), some (.int (nI S.length)), some (.ref ra), some (.int (nI i)), some (.int (nI j))]) (st' := [.int (nI S.length), .int (nI j)]) (h' := h) (fun _ => rfl) ?_
  refine rt_ige rfl (by omega) (by omega) (fun z => ?_) (fun z => ?_)
  ·
    have e : j = S.length := by omega
    subst e
    refine k h R fr_rf E C (fun a ha q hq => (hR a ha q hq).trans ⟨?_, ?_⟩)
    · rintro (w | w)
      · exact ⟨by omega, w.2⟩
      · exact ⟨by omega, w.2.2⟩
    · rintro ⟨w1, w2⟩
      by_cases e : a = i
      · refine Or.inr ⟨e, ?_, w2⟩
        obtain ⟨r, s, -, hs, -⟩ := w2
        exact gt_lt hs
      · exact Or.inl ⟨by omega, w2⟩
  obtain ⟨r, hr⟩ := gt_ex hi
  obtain ⟨s, hs⟩ := gt_ex z
  obtain ⟨a, fa, za⟩ := HF i r hr
  obtain ⟨b, fb, zb⟩ := HF j s hs
  have za := za.ex E
  have zb := zb.ex E
  obtain ⟨v, nd, bk, ps, ca, -, zn, -⟩ := za.at
  obtain ⟨v', nd', bk', ps', cb, -⟩ := zb.at
  obtain ⟨nm, rn, Nn, Gg, CD⟩ := zn.dd
  have cn := CD.1
  refine rt_k (k := 2) (pc' := 22) (L' := [some (.ref sa), some (.int (nI S.length)), some (.ref ra), some (.int (nI i)), some (.int (nI j))]) (st' := [.int (nI i), .ref sa]) (h' := h) (fun _ => rfl) ?_
  refine rt_aalN rfl cs rfl (by omega) (by omega) fa ?_
  refine rt_gf rfl ca rfl rfl ?_
  refine rt_k (k := 2) (pc' := 29) (L' := [some (.ref sa), some (.int (nI S.length)), some (.ref ra), some (.int (nI i)), some (.int (nI j))]) (st' := [.int (nI j), .ref sa, .ref nd]) (h' := h) (fun _ => rfl) ?_
  refine rt_aalN rfl cs rfl (by omega) (by omega) fb ?_
  refine rt_gf rfl cb rfl rfl ?_
  refine rt_cvH rfl (by decide) cn rfl rfl rfl rfl (dmd_place CD (nmI (lNm s))) ?_
  rintro _ (⟨p, e, he, hx, -, rfl⟩ | ⟨hno, rfl⟩)
  ·
    have hp := gt_lt he
    have hpc := CD.2.2.2.1
    have hp6 := CD.2.2.2.2.1
    have hn : ndR S i j := ⟨r, s, hr, hs, e, gt_in he, hx⟩
    refine rt_zlt rfl (by omega) ?_
    refine rt_k (k := 3) (pc' := 42) (L' := [some (.ref sa), some (.int (nI S.length)), some (.ref ra), some (.int (nI i)), some (.int (nI j))]) (st' := [.int (nI i), .ref ra, .int (nI i), .ref ra]) (h' := h) (fun _ => rfl) ?_
    refine rt_ialN rfl c rfl (by omega) (by omega) (hf i hi) ?_
    refine rt_k (k := 2) (pc' := 46) (L' := [some (.ref sa), some (.int (nI S.length)), some (.ref ra), some (.int (nI i)), some (.int (nI j))]) (st' := [.int (nI j), .int (nI 1), .int (msk (R i)), .int (nI i), .ref ra]) (h' := h) (fun _ => rfl) ?_
    refine rt_mbit rfl (by omega) ?_
    refine rt_mor rfl ?_
    refine rt_iasN rfl c rfl (by omega) (by omega) ?_
    have f_1 : fr_ (fun z => z = ra) h (h.set ra (.inl (2, S.length, .inl (upd f i (msk (fun ι => (R i) ι ∨ (ι = j))))))) := fr_set (e' := .inl (2, S.length, .inl (upd f i (msk (fun ι => (R i) ι ∨ (ι = j)))))) c (by rfl) (by first | decide | simp)
    have c_2 := hs_ne (a := ra) (e' := .inl (2, S.length, .inl (upd f i (msk (fun ι => (R i) ι ∨ (ι = j)))))) cs (by have := hc_lt zs.2; omega)
    have c_3 := hs_ne (a := ra) (e' := .inl (2, S.length, .inl (upd f i (msk (fun ι => (R i) ι ∨ (ι = j)))))) ca (fun q => by subst q; rw [c] at ca; cases ca)
    have c_4 := hs_ne (a := ra) (e' := .inl (2, S.length, .inl (upd f i (msk (fun ι => (R i) ι ∨ (ι = j)))))) cn (fun q => by subst q; rw [c] at cn; cases cn)
    have c_5 := hs_ne (a := ra) (e' := .inl (2, S.length, .inl (upd f i (msk (fun ι => (R i) ι ∨ (ι = j)))))) cb (fun q => by subst q; rw [c] at cb; cases cb)
    have c_6 := hs_self (e' := .inl (2, S.length, .inl (upd f i (msk (fun ι => (R i) ι ∨ (ι = j)))))) c
    refine rt_inc (c := 1) rfl rfl ?_
    refine rt_k (k := 1) (pc' := 14) (L' := [some (.ref sa), some (.int (nI S.length)), some (.ref ra), some (.int (nI i)), some (.int (nI (j + 1)))]) (st' := []) (h' := (h.set ra (.inl (2, S.length, .inl (upd f i (msk (fun ι => (R i) ι ∨ (ι = j)))))))) (fun _ => rfl) ?_
    refine gen_re1 HS hra hi (j + 1) _ (fun a q => R a q ∨ (a = i ∧ q = j)) (ex_st E hra) ⟨_, c_6, fun a ha => ?_⟩ z (fun a ha q hq => ?_) (fun h' R' f1 => k h' R' (fr_tr f_1 f1))
    · unfold upd
      by_cases e : a = i
      · rw [if_pos e]; subst e; exact msk_cg (fun q _ => or_congr Iff.rfl ⟨fun w => ⟨rfl, w⟩, fun w => w.2⟩)
      · rw [if_neg e, hf a ha]; exact msk_cg (fun q _ => ⟨Or.inl, fun w => w.elim id (fun w => absurd w.1 e)⟩)
    · show R a q ∨ (a = i ∧ q = j) ↔ _
      rw [hR a ha q hq]
      constructor
      · rintro ((w | w) | ⟨rfl, rfl⟩)
        · exact Or.inl w
        · exact Or.inr ⟨w.1, by omega, w.2.2⟩
        · exact Or.inr ⟨rfl, by omega, hn⟩
      · rintro (w | w)
        · exact Or.inl (Or.inl w)
        · by_cases e : q = j
          · exact Or.inr ⟨w.1, e⟩
          · exact Or.inl (Or.inr ⟨w.1, by omega, w.2.2⟩)
  refine rt_k (k := 1) (pc' := 49) (L' := [some (.ref sa), some (.int (nI S.length)), some (.ref ra), some (.int (nI i)), some (.int (nI j))]) (st' := []) (h' := h) (fun _ => rfl) ?_
  refine rt_inc (c := 1) rfl rfl ?_
  refine rt_k (k := 1) (pc' := 14) (L' := [some (.ref sa), some (.int (nI S.length)), some (.ref ra), some (.int (nI i)), some (.int (nI (j + 1)))]) (st' := []) (h' := h) (fun _ => rfl) ?_
  refine gen_re1 HS hra hi (j + 1) h R E C z (fun a ha q hq => (hR a ha q hq).trans (or_congr Iff.rfl ⟨fun w => ⟨w.1, by omega, w.2.2⟩, fun w => ⟨w.1, ?_, w.2.2⟩⟩)) k
  by_cases e : q = j
  · subst e
    obtain ⟨w1, -, r', s', h1, h2, e', h3, h4⟩ := w
    subst w1
    rw [hr] at h1; rw [hs] at h2; cases h1; cases h2
    exact absurd h4 (hno e' h3)
  · omega
termination_by S.length - j
end RE

