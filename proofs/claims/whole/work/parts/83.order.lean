/-! GENERATIONS, 4: a set in its order. -/
noncomputable def crd (p : Nat → Prop) : Nat → Nat
  | 0 => 0
  | n + 1 => crd p n + @ite Nat (p n) (Classical.propDecidable _) 1 0
theorem crd_t {p : Nat → Prop} {n : Nat} (h : p n) : crd p (n + 1) = crd p n + 1 := by rw [crd, if_pos h]
theorem crd_f {p : Nat → Prop} {n : Nat} (h : ¬ p n) : crd p (n + 1) = crd p n := by rw [crd, if_neg h, Nat.add_zero]
theorem crd_le (p : Nat → Prop) : ∀ n, crd p n ≤ n
  | 0 => Nat.le_refl _
  | n + 1 => by
    have := crd_le p n
    by_cases q : p n
    · rw [crd_t q]; omega
    · rw [crd_f q]; omega
theorem crd_mo {p : Nat → Prop} {a b : Nat} (h : a ≤ b) : crd p a ≤ crd p b := by
  induction h with
  | refl => exact Nat.le_refl _
  | step _ ih =>
    rename_i m _
    by_cases q : p m
    · rw [crd_t q]; omega
    · rw [crd_f q]; exact ih
theorem crd_cg {p q : Nat → Prop} : ∀ n, (∀ i, i < n → (p i ↔ q i)) → crd p n = crd q n
  | 0, _ => rfl
  | n + 1, h => by
    have := crd_cg n (fun i hi => h i (by omega))
    by_cases w : p n
    · rw [crd_t w, crd_t ((h n (by omega)).mp w), this]
    · rw [crd_f w, crd_f (fun z => w ((h n (by omega)).mpr z)), this]
theorem crd_or {p q : Nat → Prop} : ∀ n, (∀ i, i < n → ¬ (p i ∧ q i)) → crd (fun i => p i ∨ q i) n = crd p n + crd q n
  | 0, _ => rfl
  | n + 1, h => by
    have e := crd_or n (fun i hi => h i (by omega))
    have d := h n (by omega)
    by_cases w : p n
    · rw [crd_t (p := fun i => p i ∨ q i) (Or.inl w), crd_t w, crd_f (fun z => d ⟨w, z⟩), e]; omega
    · by_cases z : q n
      · rw [crd_t (p := fun i => p i ∨ q i) (Or.inr z), crd_f w, crd_t z, e]; omega
      · rw [crd_f (p := fun i => p i ∨ q i) (fun y => y.elim w z), crd_f w, crd_f z, e]
noncomputable def selL (S : List kL) (m : Nat → Prop) (c : Nat) : Nat → kG
  | 0 => []
  | i + 1 => selL S m c i ++ @ite kG (m i) (Classical.propDecidable _) (match S[i]? with | some r => [(r, c)] | none => []) []
theorem selL_t {S : List kL} {m : Nat → Prop} {c i : Nat} {r : kL} (hr : S[i]? = some r) (h : m i) : selL S m c (i + 1) = selL S m c i ++ [(r, c)] := by rw [selL, if_pos h, hr]
theorem selL_f {S : List kL} {m : Nat → Prop} {c i : Nat} (h : ¬ m i) : selL S m c (i + 1) = selL S m c i := by rw [selL, if_neg h, List.append_nil]
theorem selL_len {S : List kL} {m : Nat → Prop} {c : Nat} : ∀ i, i ≤ S.length → (selL S m c i).length = crd m i
  | 0, _ => rfl
  | i + 1, h => by
    obtain ⟨r, hr⟩ := gt_ex (l := S) (i := i) (by omega)
    by_cases q : m i
    · rw [selL_t hr q, crd_t q, List.length_append, selL_len i (by omega)]; rfl
    · rw [selL_f q, crd_f q, selL_len i (by omega)]
noncomputable def arL (R : Nat → Nat → Prop) (S : List kL) : Nat → Nat → (Nat → Prop) → kG → kG
  | 0, _, _, acc => acc
  | f + 1, c, pl, acc => if acc.length < S.length then arL R S f (c + 1) (fun q => pl q ∨ frF R S.length pl S.length 0 q) (acc ++ selL S (frF R S.length pl S.length 0) c S.length) else acc
noncomputable def arr (S : List kL) : kG := arL (wR S S.length) S S.length 0 (fun _ => False) []
theorem frF_sp {R : Nat → Nat → Prop} {n : Nat} {pl : Nat → Prop} : ∀ (f i : Nat), frF R n pl f i = (fun _ => False) ∨ ∃ j, i ≤ j ∧ j < i + f ∧ rdy R n pl j ∧ frF R n pl f i = cir R n j
  | 0, _ => Or.inl rfl
  | f + 1, i => by
    by_cases q : rdy R n pl i
    · exact Or.inr ⟨i, Nat.le_refl _, by omega, q, by rw [frF, if_pos q]⟩
    · rw [frF, if_neg q]
      rcases frF_sp f (i + 1) with h | ⟨j, h1, h2, h3, h4⟩
      · exact Or.inl h
      · exact Or.inr ⟨j, by omega, by omega, h3, h4⟩
/-- what is placed is whole circles -/
def plC (R : Nat → Nat → Prop) (n : Nat) (pl : Nat → Prop) : Prop := ∀ i j, i < n → j < n → pl i → R i j → R j i → pl j
theorem plC_s {R : Nat → Nat → Prop} {n : Nat} {pl : Nat → Prop} (HT : ∀ i j k, k < n → R i k → R k j → R i j) (h : plC R n pl) : (∀ i, i < n → ¬ (pl i ∧ frF R n pl n 0 i)) ∧ plC R n (fun q => pl q ∨ frF R n pl n 0 q) := by
  rcases frF_sp (R := R) (n := n) (pl := pl) n 0 with e | ⟨j, -, hj, ⟨h1, -⟩, e⟩
  · rw [e]
    exact ⟨fun i _ w => w.2, fun a b ha hb w u v => w.elim (fun w => Or.inl (h a b ha hb w u v)) (fun w => absurd w id)⟩
  · rw [e]
    refine ⟨fun i hi w => ?_, fun a b ha hb w u v => ?_⟩
    · rcases w.2 with z | z
      · subst z; exact h1 w.1
      · exact h1 (h i j hi (by omega) w.1 z.2.2 z.2.1)
    · rcases w with w | w
      · exact Or.inl (h a b ha hb w u v)
      · refine Or.inr ?_
        rcases w with z | z
        · subst z; exact Or.inr ⟨hb, u, v⟩
        · exact Or.inr ⟨hb, HT _ _ a ha z.2.1 u, HT _ _ a ha v z.2.2⟩
section GC
variable {X : Nat × (Nat → Int32)} {d : Nat} {Q : Option Value → List va_E → Prop}
/-- a generation that is being made: its rows at od and ci, its releases known in an older heap -/
def gM (h0 h : List va_E) (a od ci n : Nat) (acc : kG) : Prop := ∃ (F : Nat → Option Nat) (T : Nat → Int32), h[a]? = some (.inr (7, [.ref od, .ref ci, .int (nI n)])) ∧ h[od]? = some (.inl (5, n, .inr (.inr (.inr (.inr F))))) ∧ h[ci]? = some (.inl (2, n, .inl T)) ∧ ∀ (i : Nat) e, acc[i]? = some e → T i = nI e.2 ∧ ∃ b, F i = some b ∧ zL h0 b e.1
theorem gen_in {h0 : List va_E} {a od ci ra sa m : Nat} {S : List kL} {R : Nat → Nat → Prop} {ms : Nat → Prop} {pl : Nat → Prop} {c : Nat} (HS : sAr h0 sa m S) (hx : h0.length ≤ od ∧ od < ci ∧ ci < ra) (acc0 : kG) (hlen : acc0.length + crd ms S.length ≤ S.length) (i : Nat) (h : List va_E) (E : ex_ h0 h) (C : gM h0 h a od ci S.length (acc0 ++ selL S ms c i)) (CR : rA h ra S.length R) (hi : i ≤ S.length) (k : ∀ h', fr_ (fun z => z = od ∨ z = ci) h h' → ex_ h0 h' → gM h0 h' a od ci S.length (acc0 ++ selL S ms c S.length) → rA h' ra S.length R → rt_ X (d + 1) 7 108 [some (.ref a), some (.ref sa), some (.int (nI S.length)), some (.ref ra), some (.int (msk pl)), some (.int (nI (acc0 ++ selL S ms c S.length).length)), some (.int (nI c)), some (.int (msk ms)), some (.int (nI S.length))] [] h' Q) : rt_ X (d + 1) 7 63 [some (.ref a), some (.ref sa), some (.int (nI S.length)), some (.ref ra), some (.int (msk pl)), some (.int (nI (acc0 ++ selL S ms c i).length)), some (.int (nI c)), some (.int (msk ms)), some (.int (nI i))] [] h Q := by
  obtain ⟨FS, zs, hl, hm, HF⟩ := id HS
  obtain ⟨F, T, c1, c2, c3, HA⟩ := id C
  have cs := (E _ _ zs).2
  have hl0 := hc_lt zs.2
  refine rt_k (k := 2) (pc' := 66) (L' := [some (.ref a), some (.ref sa), some (.int (nI S.length)), some (.ref ra), some (.int (msk pl)), some (.int (nI ((acc0 ++ selL S ms c i).length))), some (.int (nI c)), some (.int (msk ms)), some (.int (nI i))]) (st' := [.int (nI S.length), .int (nI i)]) (h' := h) (fun _ => rfl) ?_
  refine rt_ige rfl (by omega) (by omega) (fun z => ?_) (fun z => ?_)
  ·
    have e : i = S.length := by omega
    subst e
    exact k h fr_rf E C CR
  obtain ⟨r, hr⟩ := gt_ex z
  obtain ⟨b, fb, zb⟩ := HF i r hr
  have zb' := zb.ex E
  obtain ⟨v, nd, bk, ps, cb, -⟩ := zb'.at
  refine rt_k (k := 2) (pc' := 73) (L' := [some (.ref a), some (.ref sa), some (.int (nI S.length)), some (.ref ra), some (.int (msk pl)), some (.int (nI ((acc0 ++ selL S ms c i).length))), some (.int (nI c)), some (.int (msk ms)), some (.int (nI i))]) (st' := [.int (nI i), .int (msk ms)]) (h' := h) (fun _ => rfl) ?_
  refine rt_cE rfl rfl (isin (by omega) ms) ?_
  refine rt_pe rfl (fun z1 => ?_) (fun z1 => ?_)
  ·
    refine rt_inc (c := 1) rfl rfl ?_
    refine rt_k (k := 1) (pc' := 63) (L' := [some (.ref a), some (.ref sa), some (.int (nI S.length)), some (.ref ra), some (.int (msk pl)), some (.int (nI ((acc0 ++ selL S ms c i).length))), some (.int (nI c)), some (.int (msk ms)), some (.int (nI (i + 1)))]) (st' := []) (h' := h) (fun _ => rfl) ?_
    rw [← selL_f (S := S) (c := c) z1] at C ⊢
    exact gen_in HS hx acc0 hlen (i + 1) h E C CR z k
  have hd : (acc0 ++ selL S ms c i).length < S.length := by
    rw [List.length_append, selL_len i hi]
    have h1 := crd_t z1
    have h2 := crd_mo (p := ms) (show i + 1 ≤ S.length by omega)
    omega
  refine rt_k (k := 1) (pc' := 80) (L' := [some (.ref a), some (.ref sa), some (.int (nI S.length)), some (.ref ra), some (.int (msk pl)), some (.int (nI ((acc0 ++ selL S ms c i).length))), some (.int (nI c)), some (.int (msk ms)), some (.int (nI i))]) (st' := [.ref a]) (h' := h) (fun _ => rfl) ?_
  refine rt_gf rfl c1 rfl rfl ?_
  refine rt_k (k := 3) (pc' := 88) (L' := [some (.ref a), some (.ref sa), some (.int (nI S.length)), some (.ref ra), some (.int (msk pl)), some (.int (nI ((acc0 ++ selL S ms c i).length))), some (.int (nI c)), some (.int (msk ms)), some (.int (nI i))]) (st' := [.int (nI i), .ref sa, .int (nI ((acc0 ++ selL S ms c i).length)), .ref od]) (h' := h) (fun _ => rfl) ?_
  refine rt_aalN rfl cs rfl (by omega) (by omega) fb ?_
  refine rt_aasN rfl c2 cb ⟨rfl, rfl⟩ (by omega) (by omega) ?_
  have f_1 : fr_ (fun z => z = od ∨ z = ci) h (h.set od (.inl (5, S.length, .inr (.inr (.inr (.inr (va_up F ((acc0 ++ selL S ms c i).length) (some b)))))))) := fr_set (e' := .inl (5, S.length, .inr (.inr (.inr (.inr (va_up F ((acc0 ++ selL S ms c i).length) (some b))))))) c2 (by rfl) (by first | decide | simp)
  have c_2 := hs_ne (a := od) (e' := .inl (5, S.length, .inr (.inr (.inr (.inr (va_up F ((acc0 ++ selL S ms c i).length) (some b))))))) c1 (fun q => by subst q; rw [c2] at c1; cases c1)
  have c_3 := hs_ne (a := od) (e' := .inl (5, S.length, .inr (.inr (.inr (.inr (va_up F ((acc0 ++ selL S ms c i).length) (some b))))))) c3 (by omega)
  have c_4 := hs_ne (a := od) (e' := .inl (5, S.length, .inr (.inr (.inr (.inr (va_up F ((acc0 ++ selL S ms c i).length) (some b))))))) cs (by omega)
  have c_5 := hs_ne (a := od) (e' := .inl (5, S.length, .inr (.inr (.inr (.inr (va_up F ((acc0 ++ selL S ms c i).length) (some b))))))) cb (fun q => by subst q; rw [c2] at cb; cases cb)
  have c_6 := hs_self (e' := .inl (5, S.length, .inr (.inr (.inr (.inr (va_up F ((acc0 ++ selL S ms c i).length) (some b))))))) c2
  refine rt_k (k := 1) (pc' := 91) (L' := [some (.ref a), some (.ref sa), some (.int (nI S.length)), some (.ref ra), some (.int (msk pl)), some (.int (nI ((acc0 ++ selL S ms c i).length))), some (.int (nI c)), some (.int (msk ms)), some (.int (nI i))]) (st' := [.ref a]) (h' := (h.set od (.inl (5, S.length, .inr (.inr (.inr (.inr (va_up F ((acc0 ++ selL S ms c i).length) (some b))))))))) (fun _ => rfl) ?_
  refine rt_gf rfl c_2 rfl rfl ?_
  refine rt_k (k := 2) (pc' := 98) (L' := [some (.ref a), some (.ref sa), some (.int (nI S.length)), some (.ref ra), some (.int (msk pl)), some (.int (nI ((acc0 ++ selL S ms c i).length))), some (.int (nI c)), some (.int (msk ms)), some (.int (nI i))]) (st' := [.int (nI c), .int (nI ((acc0 ++ selL S ms c i).length)), .ref ci]) (h' := (h.set od (.inl (5, S.length, .inr (.inr (.inr (.inr (va_up F ((acc0 ++ selL S ms c i).length) (some b))))))))) (fun _ => rfl) ?_
  refine rt_iasN rfl c_3 rfl (by omega) (by omega) ?_
  have f_7 : fr_ (fun z => z = od ∨ z = ci) h ((h.set od (.inl (5, S.length, .inr (.inr (.inr (.inr (va_up F ((acc0 ++ selL S ms c i).length) (some b)))))))).set ci (.inl (2, S.length, .inl (upd T ((acc0 ++ selL S ms c i).length) (nI c))))) := fr_tr f_1 (fr_set (e' := .inl (2, S.length, .inl (upd T ((acc0 ++ selL S ms c i).length) (nI c)))) c_3 (by rfl) (by first | decide | simp))
  have c_8 := hs_ne (a := ci) (e' := .inl (2, S.length, .inl (upd T ((acc0 ++ selL S ms c i).length) (nI c)))) c_2 (fun q => by subst q; rw [c3] at c1; cases c1)
  have c_9 := hs_ne (a := ci) (e' := .inl (2, S.length, .inl (upd T ((acc0 ++ selL S ms c i).length) (nI c)))) c_6 (by omega)
  have c_10 := hs_ne (a := ci) (e' := .inl (2, S.length, .inl (upd T ((acc0 ++ selL S ms c i).length) (nI c)))) c_4 (by omega)
  have c_11 := hs_ne (a := ci) (e' := .inl (2, S.length, .inl (upd T ((acc0 ++ selL S ms c i).length) (nI c)))) c_5 (fun q => by subst q; rw [c3] at cb; cases cb)
  have c_12 := hs_self (e' := .inl (2, S.length, .inl (upd T ((acc0 ++ selL S ms c i).length) (nI c)))) c_3
  refine rt_inc (c := 1) rfl rfl ?_
  refine rt_inc (c := 1) rfl rfl ?_
  refine rt_k (k := 1) (pc' := 63) (L' := [some (.ref a), some (.ref sa), some (.int (nI S.length)), some (.ref ra), some (.int (msk pl)), some (.int (nI (((acc0 ++ selL S ms c i).length) + 1))), some (.int (nI c)), some (.int (msk ms)), some (.int (nI (i + 1)))]) (st' := []) (h' := ((h.set od (.inl (5, S.length, .inr (.inr (.inr (.inr (va_up F ((acc0 ++ selL S ms c i).length) (some b)))))))).set ci (.inl (2, S.length, .inl (upd T ((acc0 ++ selL S ms c i).length) (nI c)))))) (fun _ => rfl) ?_
  have e1 : (acc0 ++ selL S ms c i).length + 1 = (acc0 ++ selL S ms c (i + 1)).length := by rw [selL_t hr z1]; simp only [List.length_append, List.length_cons, List.length_nil]; omega
  rw [e1]
  refine gen_in HS hx acc0 hlen (i + 1) _ (ex_st (ex_st E (by omega)) (by omega)) ⟨_, _, c_8, c_9, c_12, fun j e he => ?_⟩ ?_ z (fun h' f1 => k h' (fr_tr f_7 f1))
  · rw [selL_t hr z1, ← List.append_assoc] at he
    unfold upd
    rcases gt_snoc he with q | ⟨q1, q2⟩
    · have := gt_lt q
      rw [if_neg (by omega), va_up_ne _ _ (by omega)]
      exact HA j e q
    · subst q1; subst q2
      rw [if_pos rfl, va_up_self]
      exact ⟨rfl, b, rfl, zb⟩
  · obtain ⟨f, cr, hf⟩ := CR
    exact ⟨f, hs_ne (hs_ne cr (by omega)) (by omega), hf⟩
termination_by S.length - i
theorem gen_out {h0 : List va_E} {a od ci ra sa m : Nat} {S : List kL} {R : Nat → Nat → Prop} (HT : ∀ i j k, k < S.length → R i k → R k j → R i j) (HS : sAr h0 sa m S) (hx : h0.length ≤ od ∧ od < ci ∧ ci < ra) (f c : Nat) (hf : c + f = S.length) (h : List va_E) (pl : Nat → Prop) (acc : kG) (E : ex_ h0 h) (C : gM h0 h a od ci S.length acc) (CR : rA h ra S.length R) (hp : plC R S.length pl) (hcr : acc.length = crd pl S.length) (k : ∀ h', fr_ (fun z => z = od ∨ z = ci) h h' → ex_ h0 h' → gM h0 h' a od ci S.length (arL R S f c pl acc) → (arL R S f c pl acc).length ≤ S.length → Q none h') (x y : Option Value) : rt_ X (d + 3) 7 39 [some (.ref a), some (.ref sa), some (.int (nI S.length)), some (.ref ra), some (.int (msk pl)), some (.int (nI acc.length)), some (.int (nI c)), x, y] [] h Q := by
  obtain ⟨FS, zs, hl, hm, HF⟩ := id HS
  have hle := crd_le pl S.length
  refine rt_k (k := 2) (pc' := 42) (L' := [some (.ref a), some (.ref sa), some (.int (nI S.length)), some (.ref ra), some (.int (msk pl)), some (.int (nI acc.length)), some (.int (nI c)), x, y]) (st' := [.int (nI S.length), .int (nI c)]) (h' := h) (fun _ => rfl) ?_
  refine rt_ige rfl (by omega) (by omega) (fun z => ?_) (fun z => ?_)
  ·
    have e : f = 0 := by omega
    subst e
    exact rt_r (v := none) rfl rfl (k h fr_rf E C (by unfold arL; omega))
  obtain ⟨f, rfl⟩ : ∃ f', f = f' + 1 := ⟨f - 1, by omega⟩
  refine rt_k (k := 2) (pc' := 48) (L' := [some (.ref a), some (.ref sa), some (.int (nI S.length)), some (.ref ra), some (.int (msk pl)), some (.int (nI acc.length)), some (.int (nI c)), x, y]) (st' := [.int (nI S.length), .int (nI acc.length)]) (h' := h) (fun _ => rfl) ?_
  refine rt_ige rfl (by omega) (by omega) (fun z2 => ?_) (fun z2 => ?_)
  ·
    have e : arL R S (f + 1) c pl acc = acc := by rw [arL, if_neg (by omega)]
    exact rt_r (v := none) rfl rfl (k h fr_rf E (by rw [e]; exact C) (by rw [e]; omega))
  obtain ⟨dj, hp'⟩ := plC_s HT hp
  have e : arL R S (f + 1) c pl acc = arL R S f (c + 1) (fun q => pl q ∨ frF R S.length pl S.length 0 q) (acc ++ selL S (frF R S.length pl S.length 0) c S.length) := by rw [arL, if_pos z2]
  rw [e] at k
  have ecr := crd_or S.length dj
  have lecr := crd_le (fun i => pl i ∨ frF R S.length pl S.length 0 i) S.length
  refine rt_k (k := 3) (pc' := 55) (L' := [some (.ref a), some (.ref sa), some (.int (nI S.length)), some (.ref ra), some (.int (msk pl)), some (.int (nI acc.length)), some (.int (nI c)), x, y]) (st' := [.int (msk pl), .int (nI S.length), .ref ra]) (h' := h) (fun _ => rfl) ?_
  refine rt_cE rfl rfl (gen_first CR (by omega)) ?_
  refine rt_k (k := 3) (pc' := 63) (L' := [some (.ref a), some (.ref sa), some (.int (nI S.length)), some (.ref ra), some (.int (msk pl)), some (.int (nI (acc ++ selL S (frF R S.length pl S.length 0) c 0).length)), some (.int (nI c)), some (.int (msk (frF R S.length pl S.length 0))), some (.int (nI 0))]) (st' := []) (h' := h) (fun _ => by rw [show acc ++ selL S (frF R S.length pl S.length 0) c 0 = acc from List.append_nil _]; cases y <;> rfl) ?_
  refine gen_in HS hx acc (by omega) 0 h E (by rw [show acc ++ selL S (frF R S.length pl S.length 0) c 0 = acc from List.append_nil _]; exact C) CR (Nat.zero_le _) (fun h1 f1 E1 C1 CR1 => ?_)
  refine rt_k (k := 2) (pc' := 112) (L' := [some (.ref a), some (.ref sa), some (.int (nI S.length)), some (.ref ra), some (.int (msk pl)), some (.int (nI ((acc ++ selL S (frF R S.length pl S.length 0) c S.length).length))), some (.int (nI c)), some (.int (msk (frF R S.length pl S.length 0))), some (.int (nI S.length))]) (st' := [.int (msk (frF R S.length pl S.length 0)), .int (msk pl)]) (h' := h1) (fun _ => rfl) ?_
  refine rt_mor rfl ?_
  refine rt_k (k := 1) (pc' := 115) (L' := [some (.ref a), some (.ref sa), some (.int (nI S.length)), some (.ref ra), some (.int (msk (fun ι => pl ι ∨ (frF R S.length pl S.length 0) ι))), some (.int (nI ((acc ++ selL S (frF R S.length pl S.length 0) c S.length).length))), some (.int (nI c)), some (.int (msk (frF R S.length pl S.length 0))), some (.int (nI S.length))]) (st' := []) (h' := h1) (fun _ => rfl) ?_
  refine rt_inc (c := 1) rfl rfl ?_
  refine rt_k (k := 1) (pc' := 39) (L' := [some (.ref a), some (.ref sa), some (.int (nI S.length)), some (.ref ra), some (.int (msk (fun ι => pl ι ∨ (frF R S.length pl S.length 0) ι))), some (.int (nI ((acc ++ selL S (frF R S.length pl S.length 0) c S.length).length))), some (.int (nI (c + 1))), some (.int (msk (frF R S.length pl S.length 0))), some (.int (nI S.length))]) (st' := []) (h' := h1) (fun _ => rfl) ?_
  refine gen_out HT HS hx f (c + 1) (by omega) h1 _ _ E1 C1 CR1 hp' ?_ (fun h' f2 => k h' (fr_tr f1 f2)) _ _
  rw [List.length_append, selL_len _ (Nat.le_refl _), hcr, ← ecr]
termination_by f
theorem arL_len {R : Nat → Nat → Prop} {S : List kL} (HT : ∀ i j k, k < S.length → R i k → R k j → R i j) : ∀ (f c : Nat) (pl : Nat → Prop) (acc : kG), plC R S.length pl → acc.length = crd pl S.length → (arL R S f c pl acc).length ≤ S.length
  | 0, _, pl, acc, _, h => by rw [arL, h]; exact crd_le _ _
  | f + 1, c, pl, acc, hp, h => by
    by_cases z : acc.length < S.length
    · rw [arL, if_pos z]
      obtain ⟨dj, hp'⟩ := plC_s HT hp
      refine arL_len HT f (c + 1) _ _ hp' ?_
      rw [List.length_append, selL_len _ (Nat.le_refl _), h, ← crd_or S.length dj]
    · rw [arL, if_neg z, h]; exact crd_le _ _
end GC

