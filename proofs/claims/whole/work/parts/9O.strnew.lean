/-! STRINGS, 5: out of the reference's tape. -/
section SX
variable {X : Nat × (Nat → Int32)} {d M pc r : Nat} {L : ab_Lo} {st : List Value} {h : List va_E} {Q : Option Value → List va_E → Prop} {T : List Nat}
theorem or_nn {a b c : Nat} (ha : a ≤ 1000) (hb : b ≤ 1000) (hc : c ≤ 1000) : ¬ (nI a ||| nI b ||| nI c) < 0 := by
  intro q
  have h1 := Int32.lt_iff_toInt_lt.mp q
  rw [show (0 : Int32).toInt = 0 by decide, tp_N] at h1
  have h2 : tN (nI a ||| nI b ||| nI c) < 1024 := by
    unfold tN
    rw [Int32.toBitVec_or, Int32.toBitVec_or, BitVec.toNat_or, BitVec.toNat_or]
    have e1 : (nI a).toBitVec.toNat = a := tN_nI (by omega)
    have e2 : (nI b).toBitVec.toNat = b := tN_nI (by omega)
    have e3 : (nI c).toBitVec.toNat = c := tN_nI (by omega)
    rw [e1, e2, e3]
    exact Nat.or_lt_two_pow (n := 10) (Nat.or_lt_two_pow (by omega) (by omega)) (by omega)
  unfold tN at h2
  rw [if_pos (by omega)] at h1
  omega
theorem jd_fs {i n m : Nat} (h1 : i + n ≤ m) (hm : m ≤ 1000) : rt_ X (d + 1) 199 0 [some (.int (nI i)), some (.int (nI n)), some (.int (nI m))] [] h (fun r h' => r = some (.int (nI i)) ∧ h' = h) := by
  have hh : ∀ v : Value, (v = .null ∨ v = .retAddr 3000) → rt_ X d 200 0 [some (.int (nI i)), some (.int (nI n)), some (.int (nI m)), some v] [] h (fun r h' => r = some (.int (nI i)) ∧ h' = h) := fun v hv => by
    refine rt_k (k := 5) (pc' := 5) (L' := [some (.int (nI i)), some (.int (nI n)), some (.int (nI m)), some (v)]) (st' := [.int (((nI m) ||| (nI i)) ||| (nI n))]) (h' := h) (fun _ => rfl) ?_
    refine rt_qlt rfl (fun z => absurd z ((or_nn (by omega) (by omega) (by omega)))) (fun _ => ?_)
    refine rt_k (k := 3) (pc' := 11) (L' := [some (.int (nI i)), some (.int (nI n)), some (.int (nI m)), some (v)]) (st' := [.int (nI i), .int (nI m), .int (nI n)]) (h' := h) (fun _ => rfl) ?_
    refine rt_sub rfl (by omega) ?_
    refine rt_ile rfl (by omega) (by omega) (fun _ => ?_) (fun z => absurd z (by omega))
    refine rt_k (k := 1) (pc' := 24) (L' := [some (.int (nI i)), some (.int (nI n)), some (.int (nI m)), some (v)]) (st' := [.int (nI i)]) (h' := h) (fun _ => rfl) ?_
    exact rt_r (v := some (.int (nI i))) rfl rfl (⟨rfl, rfl⟩)
  rcases zs_or X with ez | ez
  · have t0 := trivial
    refine rt_k (k := 3) (pc' := 3) (L' := [some (.int (nI i)), some (.int (nI n)), some (.int (nI m))]) (st' := [.int (nI m), .int (nI n), .int (nI i)]) (h' := h) (fun _ => rfl) ?_
    refine rt_n rfl ?_
    rw [ez]
    refine rt_cE rfl rfl (hh _ (Or.inl rfl)) ?_
    exact rt_r (v := some (.int (nI i))) rfl rfl (⟨rfl, rfl⟩)
  · have t0 := trivial
    refine rt_k (k := 3) (pc' := 3) (L' := [some (.int (nI i)), some (.int (nI n)), some (.int (nI m))]) (st' := [.int (nI m), .int (nI n), .int (nI i)]) (h' := h) (fun _ => rfl) ?_
    refine rt_n rfl ?_
    rw [ez]
    refine rt_cE rfl rfl (hh _ (Or.inr rfl)) ?_
    exact rt_r (v := some (.int (nI i))) rfl rfl (⟨rfl, rfl⟩)
theorem jd_cmp {q b p n : Nat} {g : Nat → Int32} (hg : ∀ j, j < T.length → g j = nI (T.getD j 0)) (hT : T.length ≤ 400 ∧ ∀ c ∈ T, c < 256) (hp : p + n ≤ T.length) (hqb : q ≠ b) (i : Nat) (h : List va_E) (f : Nat → Int32) (cq : h[q]? = some (.inl (0, 400, .inl g))) (cb : h[b]? = some (.inl (3, n, .inl f))) (hi : i ≤ n) (hf : ∀ j, j < i → f j = by8 ((sl T p (p + n)).getD j 0)) (k : ∀ h' f', fr_ (fun z => z = b) h h' → h'[b]? = some (.inl (3, n, .inl f')) → (∀ j, j < n → f' j = by8 ((sl T p (p + n)).getD j 0)) → Q (some (.int (nI n))) h') (x : Option Value) : rt_ X d 203 3 [some (.ref q), some (.int (nI (p + i))), some (.ref b), some (.int (nI i)), some (.int (nI n)), some (.int (nI i)), x] [] h Q := by
  refine rt_k (k := 2) (pc' := 7) (L' := [some (.ref q), some (.int (nI (p + i))), some (.ref b), some (.int (nI i)), some (.int (nI n)), some (.int (nI i)), x]) (st' := [.int (nI n), .int (nI i)]) (h' := h) (fun _ => rfl) ?_
  refine rt_ige rfl (by omega) (by omega) (fun z => ?_) (fun z => ?_)
  ·
    have e : i = n := by omega
    refine rt_k (k := 1) (pc' := 46) (L' := [some (.ref q), some (.int (nI (p + i))), some (.ref b), some (.int (nI i)), some (.int (nI n)), some (.int (nI i)), x]) (st' := [.int (nI n)]) (h' := h) (fun _ => rfl) ?_
    exact rt_r (v := some (.int (nI n))) rfl rfl (k h f fr_rf cb (fun j hj => hf j (by omega)))
  have hc := getD_lt hT.2 (p + i)
  refine rt_k (k := 2) (pc' := 12) (L' := [some (.ref q), some (.int (nI (p + i))), some (.ref b), some (.int (nI i)), some (.int (nI n)), some (.int (nI i)), x]) (st' := [.int (nI (p + i)), .ref q]) (h' := h) (fun _ => rfl) ?_
  refine rt_calN rfl cq rfl (by omega) (by decide) (hg (p + i) (by omega)) ?_
  refine rt_k (k := 1) (pc' := 15) (L' := [some (.ref q), some (.int (nI (p + i))), some (.ref b), some (.int (nI i)), some (.int (nI n)), some (.int (nI i)), some (.int (nI (T.getD (p + i) 0)))]) (st' := []) (h' := h) (fun _ => by cases x <;> rfl) ?_
  refine rt_k (k := 2) (pc' := 20) (L' := [some (.ref q), some (.int (nI (p + i))), some (.ref b), some (.int (nI i)), some (.int (nI n)), some (.int (nI i)), some (.int (nI (T.getD (p + i) 0)))]) (st' := [.int (nI 255), .int (nI (T.getD (p + i) 0))]) (h' := h) (fun _ => rfl) ?_
  refine rt_ile rfl (by omega) (by decide) (fun _ => ?_) (fun z => absurd z (by omega))
  refine rt_k (k := 4) (pc' := 31) (L' := [some (.ref q), some (.int (nI (p + i))), some (.ref b), some (.int (nI i)), some (.int (nI n)), some (.int (nI i)), some (.int (nI (T.getD (p + i) 0)))]) (st' := [.int ((nI (T.getD (p + i) 0)).toInt8.toInt32), .int (nI i), .ref b]) (h' := h) (fun _ => rfl) ?_
  refine rt_basN rfl cb rfl (by omega) (by omega) ?_
  refine rt_nm (fun h_1 e_2 => ?_)
  have f_3 : fr_ (fun z => z = b) h h_1 := by rw [e_2]; exact fr_set (e' := .inl (3, n, .inl (upd f i (vp_nar .byte ((nI (T.getD (p + i) 0)).toInt8.toInt32))))) cb (by rfl) (by first | decide | simp)
  have n_4 : h_1.length = h.length := by rw [e_2]; simp
  have c_5 : h_1[q]? = some (.inl (0, 400, .inl g)) := by rw [e_2]; exact hs_ne cq hqb.symm
  have c_6 : h_1[b]? = some (.inl (3, n, .inl (upd f i (vp_nar .byte ((nI (T.getD (p + i) 0)).toInt8.toInt32))))) := by rw [e_2]; exact hs_self cb
  refine rt_inc (c := 1) rfl rfl ?_
  refine rt_inc (c := 1) rfl rfl ?_
  refine rt_inc (c := 1) rfl rfl ?_
  refine rt_k (k := 1) (pc' := 3) (L' := [some (.ref q), some (.int (nI (p + i + 1))), some (.ref b), some (.int (nI (i + 1))), some (.int (nI n)), some (.int (nI (i + 1))), some (.int (nI (T.getD (p + i) 0)))]) (st' := []) (h' := h_1) (fun _ => rfl) ?_
  refine jd_cmp hg hT hp hqb (i + 1) _ _ c_5 c_6 z (fun j hj => ?_) (fun h' f' f1 => k h' f' (fr_tr f_3 f1)) _
  unfold upd
  by_cases e : j = i
  · rw [if_pos e, e]
    show vp_nar .byte (by8 (T.getD (p + i) 0)) = _
    rw [by8_n ⟨_, hc⟩, sl_getD (by omega)]
  · rw [if_neg e]; exact hf j (by omega)
termination_by n - i
theorem st_new {a q p n : Nat} {g : Nat → Int32} (h39 : 39 ≤ h.length) (ca : h[a]? = some (.inr (17, [.null, .int (nI 0), .int (nI 0), .int (nI 0)]))) (cq : h[q]? = some (.inl (0, 400, .inl g))) (hg : ∀ j, j < T.length → g j = nI (T.getD j 0)) (hT : T.length ≤ 400 ∧ ∀ c ∈ T, c < 256) (hn : 1 ≤ n) (hp : p + n ≤ T.length) : rt_ X (d + 4) 197 0 [some (.ref a), some (.ref q), some (.int (nI p)), some (.int (nI n))] [] h (fun r h' => r = none ∧ gr (fun z => z = a) 1 n h h' ∧ h'[a]? = some (.inr (17, [.ref h.length, .int (nI 0), .int (nI 0), .int (nI 0)])) ∧ sSb h' h.length (sl T p (p + n))) := by
  have hla := hc_lt ca
  have hlq := hc_lt cq
  have hsl : (sl T p (p + n)).length = n := by rw [sl_len hp]; omega
  have hrc : rt_ X (d + 3) 198 0 [some (.ref q), some (.int (nI p)), some (.int (nI n))] [] h (fun r h' => r = some .null ∧ h' = h) := by
    refine rt_k (k := 3) (pc' := 3) (L' := [some (.ref q), some (.int (nI p)), some (.int (nI n))]) (st' := [.ref q, .int (nI n), .int (nI p)]) (h' := h) (fun _ => rfl) ?_
    refine rt_aln rfl cq (by decide) ?_
    refine rt_cE rfl rfl (jd_fs (by omega) (by decide)) ?_
    refine rt_k (k := 2) (pc' := 9) (L' := [some (.ref q), some (.int (nI p)), some (.int (nI n))]) (st' := [.null]) (h' := h) (fun _ => rfl) ?_
    exact rt_r (v := some (.null)) rfl rfl (⟨rfl, rfl⟩)
  have hc2 : rt_ X (d + 2) 202 0 [some (.ref q), some (.int (nI p)), some (.int (nI n)), none, none, none] [] h (fun r h' => r = some (.ref h.length) ∧ gr (fun _ => False) 1 n h h' ∧ sSb h' h.length (sl T p (p + n))) := by
    refine rt_k (k := 1) (pc' := 1) (L' := [some (.ref q), some (.int (nI p)), some (.int (nI n)), none, none, none]) (st' := [.int (nI n)]) (h' := h) (fun _ => rfl) ?_
    refine rt_nwB rfl rfl (by omega) ?_
    refine rt_nm (fun h_7 e_8 => ?_)
    have g_9 : gr (fun _ => False) 1 (n) h h_7 := by rw [e_8]; exact gr_mo (gr_tr (gr_rf (h := h)) (gr_app (.inl (3, n, .inl (fun _ => 0))))) (fun _ q => q) (by first | exact Nat.le_refl _ | omega) (by first | exact Nat.le_refl _ | (simp only [ab_z]; omega))
    have n_10 : h_7.length = h.length + 1 := by rw [e_8]; simp
    have c_11 : h_7[q]? = some (.inl (0, 400, .inl g)) := by rw [e_8]; exact ha_old _ cq
    have c_12 : h_7[h.length]? = some (.inl (3, n, .inl (fun _ => 0))) := by rw [e_8]; exact ha_new
    refine rt_k (k := 6) (pc' := 9) (L' := [some (.ref q), some (.int (nI p)), some (.int (nI n)), some (.ref h.length), none, none]) (st' := [.int (nI n), .int (nI 0), .ref h.length, .int (nI p), .ref q]) (h' := h_7) (fun _ => rfl) ?_
    have gA := g_9
    have cA := c_12
    have cQ := c_11
    generalize h_7 = h1 at *
    have hcc : rt_ X (d + 1) 203 0 [some (.ref q), some (.int (nI p)), some (.ref h.length), some (.int (nI 0)), some (.int (nI n)), none, none] [] h1 (fun r h' => r = some (.int (nI n)) ∧ fr_ (fun z => z = h.length) h1 h' ∧ ∃ f', h'[h.length]? = some (.inl (3, n, .inl f')) ∧ ∀ j, j < n → f' j = by8 ((sl T p (p + n)).getD j 0)) := by
      refine rt_k (k := 2) (pc' := 3) (L' := [some (.ref q), some (.int (nI (p + 0))), some (.ref h.length), some (.int (nI 0)), some (.int (nI n)), some (.int (nI 0)), none]) (st' := []) (h' := h1) (fun _ => rfl) ?_
      exact jd_cmp hg hT hp (by omega) 0 h1 _ cQ cA (Nat.zero_le _) (fun j hj => absurd hj (Nat.not_lt_zero _)) (fun h' f' f1 c1 c2 => ⟨rfl, f1, f', c1, c2⟩) _
    refine rt_c rfl rfl hcc ?_
    rintro _ h2 ⟨rfl, F2, f', c2, hf'⟩
    refine rt_k (k := 3) (pc' := 17) (L' := [some (.ref q), some (.int (nI p)), some (.int (nI n)), some (.ref h.length), some (.int (nI n)), none]) (st' := [.int (nI n), .int (nI n)]) (h' := h2) (fun _ => rfl) ?_
    refine rt_ieq rfl (by omega) (by omega) (fun _ => ?_) (fun z => absurd z (by omega))
    refine rt_k (k := 1) (pc' := 58) (L' := [some (.ref q), some (.int (nI p)), some (.int (nI n)), some (.ref h.length), some (.int (nI n)), none]) (st' := [.ref h.length]) (h' := h2) (fun _ => rfl) ?_
    exact rt_r (v := some (.ref h.length)) rfl rfl (⟨rfl, ⟨by rw [F2.1]; exact gA.1, by rw [F2.1]; exact gA.2.1, by rw [F2.2.1]; exact gA.2.2.1, fun k hk _ => by rw [F2.2.2 k (by omega)]; exact gA.2.2.2 k hk id⟩, f', ⟨by unfold zz; omega, by rw [hsl]; exact c2⟩, fun i hi => hf' i (by omega)⟩)
  have hin : rt_ X (d + 3) 201 0 [some (.ref a), some (.ref q), some (.int (nI p)), some (.int (nI n)), some .null, none] [] h (fun r h' => r = none ∧ gr (fun z => z = a) 1 n h h' ∧ h'[a]? = some (.inr (17, [.ref h.length, .int (nI 0), .int (nI 0), .int (nI 0)])) ∧ sSb h' h.length (sl T p (p + n))) := by
    refine rt_k (k := 3) (pc' := 5) (L' := [some (.ref a), some (.ref q), some (.int (nI p)), some (.int (nI n)), some (.null), none]) (st' := [.int (nI n)]) (h' := h) (fun _ => rfl) ?_
    refine rt_zne rfl (by omega) (fun _ => ?_) (fun z => absurd z (by omega))
    refine rt_k (k := 5) (pc' := 36) (L' := [some (.ref a), some (.ref q), some (.int (nI p)), some (.int (nI n)), some (.null), none]) (st' := [.int (nI n), .int (nI p), .ref q]) (h' := h) (fun _ => rfl) ?_
    refine rt_c rfl rfl hc2 ?_
    rintro _ h1 ⟨rfl, g1, S1⟩
    obtain ⟨f, ⟨zf, cf⟩, hf⟩ := id S1
    rw [hsl] at cf
    have ca1 := gr_at g1 ca id
    have hco : rt_ X (d + 2) 204 0 [some (.ref h.length), some (.int (nI n))] [] h1 (fun r h' => r = some (.int (nI 0)) ∧ h' = h1) := by
      refine rt_k (k := 2) (pc' := 2) (L' := [some (.ref h.length), some (.int (nI n))]) (st' := [.ref h.length, .int (nI n)]) (h' := h1) (fun _ => rfl) ?_
      refine rt_aln rfl cf (by decide) ?_
      refine rt_sub rfl (by omega) ?_
      rw [Nat.sub_self]
      exact ⟨10, some (.int (nI 0)), h1, rfl, rfl, rfl⟩
    refine rt_k (k := 4) (pc' := 45) (L' := [some (.ref a), some (.ref q), some (.int (nI p)), some (.int (nI n)), some (.null), some (.ref h.length)]) (st' := [.int (nI n), .ref h.length, .ref a]) (h' := h1) (fun _ => rfl) ?_
    refine rt_cE rfl rfl hco ?_
    refine rt_pf rfl ca1 ⟨rfl, (show 1 < 4 by decide), rfl⟩ ?_
    refine rt_nm (fun h_13 e_14 => ?_)
    have f_15 : fr_ (fun z => z = a) h1 h_13 := by rw [e_14]; exact fr_set (e' := .inr (17, [.null, .int (nI 0), .int (nI 0), .int (nI 0)])) ca1 (by rfl) (by first | decide | simp)
    have n_16 : h_13.length = h1.length := by rw [e_14]; simp
    have c_17 : h_13[a]? = some (.inr (17, [.null, .int (nI 0), .int (nI 0), .int (nI 0)])) := by rw [e_14]; exact hs_self ca1
    refine rt_k (k := 2) (pc' := 54) (L' := [some (.ref a), some (.ref q), some (.int (nI p)), some (.int (nI n)), some (.null), some (.ref h.length)]) (st' := [.ref h.length, .ref a]) (h' := h_13) (fun _ => rfl) ?_
    refine rt_pf rfl c_17 ⟨rfl, (show 0 < 4 by decide), rfl⟩ ?_
    refine rt_nm (fun h_18 e_19 => ?_)
    have f_20 : fr_ (fun z => z = a) h1 h_18 := by rw [e_19]; exact fr_tr f_15 (fr_set (e' := .inr (17, [.ref h.length, .int (nI 0), .int (nI 0), .int (nI 0)])) c_17 (by rfl) (by first | decide | simp))
    have n_21 : h_18.length = h_13.length := by rw [e_19]; simp
    have c_22 : h_18[a]? = some (.inr (17, [.ref h.length, .int (nI 0), .int (nI 0), .int (nI 0)])) := by rw [e_19]; exact hs_self c_17
    have F := f_20
    have cz := c_22
    refine rt_r (v := none) rfl rfl ⟨rfl, ⟨by rw [F.1]; exact g1.1, by rw [F.1]; exact g1.2.1, by rw [F.2.1]; exact g1.2.2.1, fun k hk hn => by rw [F.2.2 k hn]; exact g1.2.2.2 k hk id⟩, cz, f, ⟨zf, ?_⟩, hf⟩
    rw [hsl]
    exact fr_at F (by omega) cf
  refine rt_k (k := 7) (pc' := 7) (L' := [some (.ref a), some (.ref q), some (.int (nI p)), some (.int (nI n))]) (st' := [.int (nI n), .int (nI p), .ref q, .int (nI n), .int (nI p), .ref q, .ref a]) (h' := h) (fun _ => rfl) ?_
  refine rt_cE rfl rfl hrc ?_
  refine rt_c rfl rfl hin ?_
  rintro _ h' ⟨rfl, g1, g2, g3⟩
  exact rt_r (v := none) rfl rfl (⟨rfl, g1, g2, g3⟩)
end SX

