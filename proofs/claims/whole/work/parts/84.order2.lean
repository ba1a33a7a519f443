/-! GENERATIONS, 5: every set comes into an order; the constructor. -/
theorem crd_lt {p q : Nat → Prop} {i : Nat} : ∀ n, (∀ j, j < n → p j → q j) → i < n → q i → ¬ p i → crd p n < crd q n
  | 0, _, h, _, _ => absurd h (Nat.not_lt_zero _)
  | n + 1, h, hi, hq, hp => by
    by_cases e : i = n
    · subst e
      rw [crd_t hq, crd_f hp]
      have : crd p i ≤ crd q i := by
        clear hq hp hi
        induction i with
        | zero => exact Nat.le_refl _
        | succ m ih =>
          have := ih (fun j hj => h j (by omega))
          by_cases w : p m
          · rw [crd_t w, crd_t (h m (by omega) w)]; omega
          · rw [crd_f w]
            have := crd_mo (p := q) (show m ≤ m + 1 by omega)
            omega
      omega
    · have := crd_lt n (fun j hj => h j (by omega)) (by omega) hq hp
      by_cases w : p n
      · rw [crd_t w, crd_t (h n (by omega) w)]; omega
      · rw [crd_f w]
        have := crd_mo (p := q) (show n ≤ n + 1 by omega)
        omega
theorem rdy_ex {R : Nat → Nat → Prop} {n : Nat} {pl : Nat → Prop} (HT : ∀ i j k, k < n → R i k → R k j → R i j) (HL : ∀ i j, R i j → i < n ∧ j < n) : ∀ (b i : Nat), i < n → ¬ pl i → crd (fun x => ¬ pl x ∧ (x = i ∨ R i x)) n < b → ∃ j, j < n ∧ rdy R n pl j
  | 0, _, _, _, h => absurd h (Nat.not_lt_zero _)
  | b + 1, i, hi, hp, hb => by
    by_cases w : rdy R n pl i
    · exact ⟨i, hi, w⟩
    · have : ∃ q, q < 32 ∧ ((R i q ∧ ¬ pl q) ∧ ¬ cir R n i q) := Classical.byContradiction fun z => w ⟨hp, fun q hq y => z ⟨q, hq, y⟩⟩
      obtain ⟨q, -, ⟨h1, h2⟩, h3⟩ := this
      have hqn := (HL _ _ h1).2
      have n1 : q ≠ i := fun e => h3 (Or.inl e)
      have n2 : ¬ R q i := fun e => h3 (Or.inr ⟨hqn, h1, e⟩)
      refine rdy_ex HT HL b q hqn h2 (Nat.lt_of_lt_of_le (crd_lt (q := fun x => ¬ pl x ∧ (x = i ∨ R i x)) (i := i) n (fun j hj w => ⟨w.1, ?_⟩) hi ⟨hp, Or.inl rfl⟩ (fun w => w.2.elim (fun e => n1 e.symm) n2)) (Nat.lt_succ_iff.mp hb))
      rcases w.2 with e | e
      · rw [e]; exact Or.inr h1
      · exact Or.inr (HT _ _ q hqn h1 e)
theorem frF_ex {R : Nat → Nat → Prop} {n : Nat} {pl : Nat → Prop} {j : Nat} : ∀ (f i : Nat), i ≤ j → j < i + f → rdy R n pl j → ∃ k, i ≤ k ∧ k < i + f ∧ rdy R n pl k ∧ (∀ l, i ≤ l → l < k → ¬ rdy R n pl l) ∧ frF R n pl f i = cir R n k
  | 0, i, h1, h2, _ => by omega
  | f + 1, i, h1, h2, h3 => by
    by_cases q : rdy R n pl i
    · exact ⟨i, Nat.le_refl _, by omega, q, fun l a b => by omega, by rw [frF, if_pos q]⟩
    · have : i ≠ j := fun e => q (e ▸ h3)
      obtain ⟨k, a, b, c, e, g⟩ := frF_ex f (i + 1) (by omega) (by omega) h3
      refine ⟨k, by omega, by omega, c, fun l h1 h2 => ?_, by rw [frF, if_neg q, g]⟩
      by_cases z : l = i
      · subst z; exact q
      · exact e l (by omega) h2
theorem crd_ex {p : Nat → Prop} : ∀ n, crd p n < n → ∃ i, i < n ∧ ¬ p i
  | 0, h => absurd h (Nat.not_lt_zero _)
  | n + 1, h => by
    by_cases q : p n
    · rw [crd_t q] at h
      obtain ⟨i, a, b⟩ := crd_ex (p := p) n (by omega)
      exact ⟨i, by omega, b⟩
    · exact ⟨n, by omega, q⟩
theorem crd_p {p : Nat → Prop} {i n : Nat} (hi : i < n) (h : p i) : 1 ≤ crd p n := by
  have := crd_mo (p := p) (show i + 1 ≤ n by omega)
  rw [crd_t h] at this
  omega
theorem arL_full {R : Nat → Nat → Prop} {S : List kL} (HT : ∀ i j k, k < S.length → R i k → R k j → R i j) (HL : ∀ i j, R i j → i < S.length ∧ j < S.length) : ∀ (f c : Nat) (pl : Nat → Prop) (acc : kG), c + f = S.length → plC R S.length pl → acc.length = crd pl S.length → c ≤ acc.length → S.length ≤ (arL R S f c pl acc).length
  | 0, c, pl, acc, hc, _, h, h2 => by rw [arL]; omega
  | f + 1, c, pl, acc, hc, hp, h, h2 => by
    by_cases z : acc.length < S.length
    · rw [arL, if_pos z]
      obtain ⟨dj, hp'⟩ := plC_s HT hp
      have e : (acc ++ selL S (frF R S.length pl S.length 0) c S.length).length = crd (fun q => pl q ∨ frF R S.length pl S.length 0 q) S.length := by
        rw [List.length_append, selL_len _ (Nat.le_refl _), h, ← crd_or S.length dj]
      refine arL_full HT HL f (c + 1) _ _ (by omega) hp' e ?_
      obtain ⟨i, hi, hpi⟩ := crd_ex S.length (h ▸ z)
      obtain ⟨j, hj, hr⟩ := rdy_ex HT HL _ i hi hpi (Nat.lt_succ_self _)
      obtain ⟨k, -, hk, -, -, ek⟩ := frF_ex S.length 0 (Nat.zero_le _) (by omega) hr
      have : 1 ≤ crd (frF R S.length pl S.length 0) S.length := by rw [ek]; exact crd_p (i := k) (by omega) (Or.inl rfl)
      rw [List.length_append, selL_len _ (Nat.le_refl _)]
      omega
    · rw [arL, if_neg z]; omega
theorem wR_T {S : List kL} : ∀ i j k, k < S.length → wR S S.length i k → wR S S.length k j → wR S S.length i j := fun _ _ _ h u v => wR_tr _ h u v
theorem arr_len (S : List kL) : (arr S).length = S.length := by
  have h0 : crd (fun _ => False) S.length = 0 := by
    generalize S.length = n
    induction n with
    | zero => rfl
    | succ n ih => rw [crd_f id, ih]
  have p0 : plC (wR S S.length) S.length (fun _ => False) := fun _ _ _ _ w => absurd w id
  refine Nat.le_antisymm (arL_len wR_T _ _ _ _ p0 h0.symm) (arL_full wR_T (fun _ _ w => wR_lt _ w) _ _ _ _ (by omega) p0 h0.symm (Nat.zero_le _))
theorem rt_nm {X : Nat × (Nat → Int32)} {d M pc : Nat} {L : ab_Lo} {st : List Value} {h : List va_E} {Q : Option Value → List va_E → Prop} (k : ∀ h', h' = h → rt_ X d M pc L st h' Q) : rt_ X d M pc L st h Q := k h rfl
section GN2
variable {X : Nat × (Nat → Int32)} {d : Nat} {Q : Option Value → List va_E → Prop}
theorem gen_new {h0 h1 : List va_E} {sa m : Nat} {S : List kL} (h39 : 39 ≤ h0.length) (HS : sAr h0 sa m S) (G0 : gr (fun _ => False) 1 3 h0 h1) (e0 : h1.length = h0.length + 1) (c0 : h1[h0.length]? = some (.inr (7, [.null, .null, .int (nI 0)]))) : rt_ X (d + 4) 7 0 [some (.ref h0.length), some (.ref sa), some (.int (nI S.length)), none, none, none, none, none, none] [] h1 (fun v h' => v = none ∧ gr (fun _ => False) 4 (3 + 3 * S.length) h0 h' ∧ zG h' h0.length (arr S)) := by
  obtain ⟨FS, zs, hl, hm, HF⟩ := id HS
  have E1 := gr_ex G0 (fun _ _ => id)
  refine rt_k (k := 4) (pc' := 6) (L' := [some (.ref h0.length), some (.ref sa), some (.int (nI S.length)), none, none, none, none, none, none]) (st' := [.int (nI S.length), .ref h0.length]) (h' := h1) (fun _ => rfl) ?_
  refine rt_pf rfl c0 ⟨rfl, (show 2 < 3 by decide), rfl⟩ ?_
  refine rt_nm (fun h_1 e_2 => ?_)
  have g_3 : gr (fun z => z = h0.length) 0 (0) h1 h_1 := by rw [e_2]; exact gr_mo (gr_tr (gr_rf (h := h1)) (gr_fr (fr_set (e' := .inr (7, [.null, .null, .int (nI S.length)])) c0 (by rfl) (by first | decide | simp)))) (fun _ q => q) (by first | exact Nat.le_refl _ | omega) (by first | exact Nat.le_refl _ | (simp only [ab_z]; omega))
  have n_4 : h_1.length = h1.length := by rw [e_2]; simp
  have c_5 : h_1[h0.length]? = some (.inr (7, [.null, .null, .int (nI S.length)])) := by rw [e_2]; exact hs_self c0
  refine rt_k (k := 2) (pc' := 11) (L' := [some (.ref h0.length), some (.ref sa), some (.int (nI S.length)), none, none, none, none, none, none]) (st' := [.int (nI S.length), .ref h0.length]) (h' := h_1) (fun _ => rfl) ?_
  refine rt_na rfl rfl (by omega) ?_
  refine rt_nm (fun h_6 e_7 => ?_)
  have g_8 : gr (fun z => z = h0.length) 1 (S.length) h1 h_6 := by rw [e_7]; exact gr_mo (gr_tr g_3 (gr_app (.inl (5, S.length, .inr (.inr (.inr (.inr (fun _ => none)))))))) (fun _ q => q) (by first | exact Nat.le_refl _ | omega) (by first | exact Nat.le_refl _ | (simp only [ab_z]; omega))
  have n_9 : h_6.length = h_1.length + 1 := by rw [e_7]; simp
  have c_10 : h_6[h0.length]? = some (.inr (7, [.null, .null, .int (nI S.length)])) := by rw [e_7]; exact ha_old _ c_5
  have c_11 : h_6[h_1.length]? = some (.inl (5, S.length, .inr (.inr (.inr (.inr (fun _ => none)))))) := by rw [e_7]; exact ha_new
  refine rt_pf rfl c_10 ⟨rfl, (show 0 < 3 by decide), rfl⟩ ?_
  refine rt_nm (fun h_12 e_13 => ?_)
  have g_14 : gr (fun z => z = h0.length) 1 (S.length) h1 h_12 := by rw [e_13]; exact gr_mo (gr_tr g_8 (gr_fr (fr_set (e' := .inr (7, [.ref h_1.length, .null, .int (nI S.length)])) c_10 (by rfl) (by first | decide | simp)))) (fun _ q => q) (by first | exact Nat.le_refl _ | omega) (by first | exact Nat.le_refl _ | (simp only [ab_z]; omega))
  have n_15 : h_12.length = h_6.length := by rw [e_13]; simp
  have c_16 : h_12[h0.length]? = some (.inr (7, [.ref h_1.length, .null, .int (nI S.length)])) := by rw [e_13]; exact hs_self c_10
  have c_17 : h_12[h_1.length]? = some (.inl (5, S.length, .inr (.inr (.inr (.inr (fun _ => none)))))) := by rw [e_13]; exact hs_ne c_11 (hc_ne c_10 c_11 (by intro q; cases q))
  refine rt_k (k := 2) (pc' := 19) (L' := [some (.ref h0.length), some (.ref sa), some (.int (nI S.length)), none, none, none, none, none, none]) (st' := [.int (nI S.length), .ref h0.length]) (h' := h_12) (fun _ => rfl) ?_
  refine rt_nwI rfl rfl (by omega) ?_
  refine rt_nm (fun h_18 e_19 => ?_)
  have g_20 : gr (fun z => z = h0.length) 2 (S.length + S.length) h1 h_18 := by rw [e_19]; exact gr_mo (gr_tr g_14 (gr_app (.inl (2, S.length, .inl (fun _ => 0))))) (fun _ q => q) (by first | exact Nat.le_refl _ | omega) (by first | exact Nat.le_refl _ | (simp only [ab_z]; omega))
  have n_21 : h_18.length = h_12.length + 1 := by rw [e_19]; simp
  have c_22 : h_18[h0.length]? = some (.inr (7, [.ref h_1.length, .null, .int (nI S.length)])) := by rw [e_19]; exact ha_old _ c_16
  have c_23 : h_18[h_1.length]? = some (.inl (5, S.length, .inr (.inr (.inr (.inr (fun _ => none)))))) := by rw [e_19]; exact ha_old _ c_17
  have c_24 : h_18[h_12.length]? = some (.inl (2, S.length, .inl (fun _ => 0))) := by rw [e_19]; exact ha_new
  refine rt_pf rfl c_22 ⟨rfl, (show 1 < 3 by decide), rfl⟩ ?_
  refine rt_nm (fun h_25 e_26 => ?_)
  have g_27 : gr (fun z => z = h0.length) 2 (S.length + S.length) h1 h_25 := by rw [e_26]; exact gr_mo (gr_tr g_20 (gr_fr (fr_set (e' := .inr (7, [.ref h_1.length, .ref h_12.length, .int (nI S.length)])) c_22 (by rfl) (by first | decide | simp)))) (fun _ q => q) (by first | exact Nat.le_refl _ | omega) (by first | exact Nat.le_refl _ | (simp only [ab_z]; omega))
  have n_28 : h_25.length = h_18.length := by rw [e_26]; simp
  have c_29 : h_25[h0.length]? = some (.inr (7, [.ref h_1.length, .ref h_12.length, .int (nI S.length)])) := by rw [e_26]; exact hs_self c_22
  have c_30 : h_25[h_1.length]? = some (.inl (5, S.length, .inr (.inr (.inr (.inr (fun _ => none)))))) := by rw [e_26]; exact hs_ne c_23 (hc_ne c_22 c_23 (by intro q; cases q))
  have c_31 : h_25[h_12.length]? = some (.inl (2, S.length, .inl (fun _ => 0))) := by rw [e_26]; exact hs_ne c_24 (hc_ne c_22 c_24 (by intro q; cases q))
  have g1 := g_27
  have ca := c_29
  have co := c_30
  have cc := c_31
  have la : h_1.length = h0.length + 1 := by omega
  have lb : h_12.length = h0.length + 2 := by omega
  rw [la] at ca co
  rw [lb] at ca cc
  have g2 : gr (fun _ => False) 3 (3 + 2 * S.length) h0 h_25 := by
    refine ⟨by omega, by omega, ?_, fun k hk _ => ?_⟩
    · have := g1.2.2.1
      have := G0.2.2.1
      omega
    · exact (g1.2.2.2 k (by omega) (by omega)).trans (G0.2.2.2 k hk id)
  have E2 := gr_ex g2 (fun _ _ => id)
  have HS2 : sAr h_25 sa m S := ⟨FS, E2 _ _ zs, hl, hm, fun i r hr => by obtain ⟨a, fa, za⟩ := HF i r hr; exact ⟨a, fa, za.ex E2⟩⟩
  have ln2 : h_25.length = h0.length + 3 := by omega
  generalize h_25 = h2 at *
  refine rt_k (k := 2) (pc' := 26) (L' := [some (.ref h0.length), some (.ref sa), some (.int (nI S.length)), none, none, none, none, none, none]) (st' := [.int (nI S.length), .ref sa]) (h' := h2) (fun _ => rfl) ?_
  refine rt_c rfl rfl (gen_reach HS2) ?_
  rintro _ h3 ⟨ra, rfl, hra, g3, CR⟩
  have E3 := gr_ex g3 (fun _ _ => id)
  have C0 : gM h0 h3 h0.length (h0.length + 1) (h0.length + 2) S.length [] := ⟨_, _, gr_at g3 ca id, gr_at g3 co id, gr_at g3 cc id, fun i e he => by cases he⟩
  refine rt_k (k := 7) (pc' := 39) (L' := [some (.ref h0.length), some (.ref sa), some (.int (nI S.length)), some (.ref ra), some (.int (msk (fun _ => False))), some (.int (nI ([] : kG).length)), some (.int (nI 0)), none, none]) (st' := []) (h' := h3) (fun _ => by rw [msk_0]; rfl) ?_
  have h0c : crd (fun _ => False) S.length = 0 := by
    generalize S.length = n
    induction n with
    | zero => rfl
    | succ n ih => rw [crd_f id, ih]
  have e9 : (arr S).length = S.length := arr_len S
  refine gen_out wR_T HS ⟨by omega, by omega, by omega⟩ S.length 0 (by omega) h3 (fun _ => False) [] (ex_tr E2 E3) C0 CR (fun _ _ _ _ w => absurd w id) h0c.symm (fun h4 f4 E4 C4 _ => ⟨rfl, ?_, ?_⟩) _ _
  · have g23 := gr_tr g2 g3
    refine ⟨by rw [f4.1]; exact g23.1, by rw [f4.1]; exact g23.2.1, by rw [f4.2.1]; have := g23.2.2.1; omega, fun k hk _ => ?_⟩
    rw [f4.2.2 k (by omega)]
    exact g23.2.2.2 k hk id
  · obtain ⟨F, T, k1, k2, k3, HA⟩ := C4
    rw [← e9] at k1 k2 k3
    exact ⟨_, _, F, T, ⟨by unfold zz; omega, k1⟩, ⟨by unfold zz; omega, k2⟩, ⟨by unfold zz; omega, k3⟩, by omega, fun i e he => by obtain ⟨u, b, fb, zb⟩ := HA i e he; exact ⟨u, b, fb, zb.ex E4⟩⟩
end GN2

