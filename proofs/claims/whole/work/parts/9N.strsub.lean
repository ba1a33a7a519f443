/-! STRINGS, 4: pieces, new ones. -/
section SW
variable {X : Nat × (Nat → Int32)} {d M pc r : Nat} {L : ab_Lo} {st : List Value} {h : List va_E} {Q : Option Value → List va_E → Prop} {T : List Nat}
theorem rt_acB {idx a0 a t0 t1 n0 n1 sp dp n : Nat} {f g : Nat → Int32} (hi : ab_k (tb_il M) pc = some (.invokestatic idx, 6666)) (h0 : h[a0]? = some (.inl (t0, n0, .inl f))) (h1 : h[a]? = some (.inl (t1, n1, .inl g))) (ha : a0 ≠ a) (ht0 : tb_at[t0]? = some .byte) (ht1 : tb_at[t1]? = some .byte) (hs : sp + n ≤ n0) (hd : dp + n ≤ n1) (hb : n0 ≤ 1000000 ∧ n1 ≤ 1000000) (hst : (st.map fun v => v.category).sum ≤ 2) (hf : ∀ i, i < n → ab_f .byte (.int (f (sp + i))) = true) (k : rt_ X d M (pc + 3) L st (h.set a (.inl (t1, n1, .inl (va_cpy f g sp dp n)))) Q) : rt_ X d M pc L (.int (nI n) :: .int (nI dp) :: .ref a :: .int (nI sp) :: .ref a0 :: st) h Q := by
  refine rt_s1 hi ?_ k
  simp only [ab_x, ab_n, h0, h1]
  rw [if_pos trivial, if_pos]
  · rw [nI_clamp (by omega), nI_clamp (by omega), nI_clamp (by omega)]
  · rw [nI_clamp (by omega), nI_clamp (by omega)]
    refine ⟨?_, hf⟩
    unfold ab_cy
    simp only [Bool.and_eq_true, decide_eq_true_eq]
    rw [nI_clamp (by omega), nI_clamp (by omega), nI_clamp (by omega)]
    exact ⟨⟨⟨⟨⟨⟨⟨⟨ha, ht0⟩, ht1⟩, nI_pos (by omega)⟩, nI_pos (by omega)⟩, nI_pos (by omega)⟩, hs⟩, hd⟩, hst⟩
theorem rt_min {idx x y : Nat} (hi : ab_k (tb_il M) pc = some (.invokestatic idx, 5555)) (hx : x < 2147483648) (hy : y < 2147483648) (hs : (st.map fun v => v.category).sum ≤ 6) (k : rt_ X d M (pc + 3) L (.int (nI (min x y)) :: st) h Q) : rt_ X d M pc L (.int (nI y) :: .int (nI x) :: st) h Q := by
  refine rt_s1 hi ?_ k
  simp only [ab_x, ab_n]
  rw [if_neg (by decide), if_pos trivial, if_pos hs]
  by_cases q : y < x
  · rw [if_pos ((nI_ltI hy hx).mpr q), Nat.min_eq_right (by omega)]
  · rw [if_neg (fun w => q ((nI_ltI hy hx).mp w)), Nat.min_eq_left (by omega)]
theorem jd_ft {i j n : Nat} (h1 : i ≤ j) (h2 : j ≤ n) (hn : n < 2147483648) : rt_ X (d + 1) 190 0 [some (.int (nI i)), some (.int (nI j)), some (.int (nI n))] [] h (fun r h' => r = none ∧ h' = h) := by
  have hh : ∀ v : Value, (v = .null ∨ v = .retAddr 3000) → rt_ X d 191 0 [some (.int (nI i)), some (.int (nI j)), some (.int (nI n)), some v] [] h (fun r h' => r = some (.int (nI i)) ∧ h' = h) := fun v hv => by
    refine rt_k (k := 1) (pc' := 1) (L' := [some (.int (nI i)), some (.int (nI j)), some (.int (nI n)), some (v)]) (st' := [.int (nI i)]) (h' := h) (fun _ => rfl) ?_
    refine rt_zlt rfl (by omega) ?_
    refine rt_k (k := 2) (pc' := 6) (L' := [some (.int (nI i)), some (.int (nI j)), some (.int (nI n)), some (v)]) (st' := [.int (nI j), .int (nI i)]) (h' := h) (fun _ => rfl) ?_
    refine rt_igt rfl (by omega) (by omega) (fun z => absurd z (by omega)) (fun _ => ?_)
    refine rt_k (k := 2) (pc' := 11) (L' := [some (.int (nI i)), some (.int (nI j)), some (.int (nI n)), some (v)]) (st' := [.int (nI n), .int (nI j)]) (h' := h) (fun _ => rfl) ?_
    refine rt_ile rfl (by omega) (by omega) (fun _ => ?_) (fun z => absurd z (by omega))
    refine rt_k (k := 1) (pc' := 23) (L' := [some (.int (nI i)), some (.int (nI j)), some (.int (nI n)), some (v)]) (st' := [.int (nI i)]) (h' := h) (fun _ => rfl) ?_
    exact rt_r (v := some (.int (nI i))) rfl rfl (⟨rfl, rfl⟩)
  rcases zs_or X with ez | ez
  · have t0 := trivial
    refine rt_k (k := 3) (pc' := 3) (L' := [some (.int (nI i)), some (.int (nI j)), some (.int (nI n))]) (st' := [.int (nI n), .int (nI j), .int (nI i)]) (h' := h) (fun _ => rfl) ?_
    refine rt_n rfl ?_
    rw [ez]
    refine rt_cE rfl rfl (hh _ (Or.inl rfl)) ?_
    refine rt_k (k := 1) (pc' := 10) (L' := [some (.int (nI i)), some (.int (nI j)), some (.int (nI n))]) (st' := []) (h' := h) (fun _ => rfl) ?_
    exact rt_r (v := none) rfl rfl (⟨rfl, rfl⟩)
  · have t0 := trivial
    refine rt_k (k := 3) (pc' := 3) (L' := [some (.int (nI i)), some (.int (nI j)), some (.int (nI n))]) (st' := [.int (nI n), .int (nI j), .int (nI i)]) (h' := h) (fun _ => rfl) ?_
    refine rt_n rfl ?_
    rw [ez]
    refine rt_cE rfl rfl (hh _ (Or.inr rfl)) ?_
    refine rt_k (k := 1) (pc' := 10) (L' := [some (.int (nI i)), some (.int (nI j)), some (.int (nI n))]) (st' := []) (h' := h) (fun _ => rfl) ?_
    exact rt_r (v := none) rfl rfl (⟨rfl, rfl⟩)
/-- a String's value: a word of the heap, or the empty constant -/
def sVl (h : List va_E) (v : Value) (w : kW) : Prop := (∃ a, v = .ref a ∧ sS h a w) ∨ (v = .retAddr 5 ∧ w = [])
theorem jd_cor {v p q : Nat} {w : kW} (A : sSb h v w) (hw : w.length ≤ 400 ∧ ∀ c ∈ w, c < 256) (h1 : p < q) (h2 : q ≤ w.length) (h3 : ¬ (p = 0 ∧ q = w.length)) (h39 : 39 ≤ h.length) : rt_ X (d + 2) 193 0 [some (.ref v), some (.int (nI p)), some (.int (nI q))] [] h (fun r h' => ∃ a : Nat, r = some (.ref a) ∧ gr (fun _ => False) 1 (q - p) h h' ∧ a = h.length ∧ h'.length = h.length + 1 ∧ sSb h' a (sl w p q)) := by
  obtain ⟨f, ⟨-, c1⟩, hf⟩ := id A
  have hlv := hc_lt c1
  have hcl : rt_ X d 195 0 [some (.int (nI p)), some (.int (nI q))] [] h (fun r h' => r = none ∧ h' = h) := by
    refine rt_k (k := 2) (pc' := 2) (L' := [some (.int (nI p)), some (.int (nI q))]) (st' := [.int (nI p), .int (nI q)]) (h' := h) (fun _ => rfl) ?_
    refine rt_ige rfl (by omega) (by omega) (fun _ => ?_) (fun z => absurd z (by omega))
    exact rt_r (v := none) rfl rfl (⟨rfl, rfl⟩)
  have main : rt_ X (d + 1) 194 0 [some (.ref v), some (.int (nI p)), some (.int (nI q)), none, none] [] h (fun r h' => ∃ a : Nat, r = some (.ref a) ∧ gr (fun _ => False) 1 (q - p) h h' ∧ a = h.length ∧ h'.length = h.length + 1 ∧ sSb h' a (sl w p q)) := by
    refine rt_k (k := 2) (pc' := 2) (L' := [some (.ref v), some (.int (nI p)), some (.int (nI q)), none, none]) (st' := [.int (nI q), .int (nI p)]) (h' := h) (fun _ => rfl) ?_
    refine rt_cE rfl rfl hcl ?_
    refine rt_k (k := 2) (pc' := 7) (L' := [some (.ref v), some (.int (nI p)), some (.int (nI q)), none, none]) (st' := [.int (nI p), .int (nI q)]) (h' := h) (fun _ => rfl) ?_
    refine rt_sub rfl (by omega) ?_
    refine rt_k (k := 2) (pc' := 10) (L' := [some (.ref v), some (.int (nI p)), some (.int (nI q)), some (.int (nI (q - p))), none]) (st' := [.int (nI (q - p))]) (h' := h) (fun _ => rfl) ?_
    refine rt_nwB rfl rfl (by omega) ?_
    refine rt_nm (fun h_1 e_2 => ?_)
    have g_3 : gr (fun _ => False) 1 (q - p) h h_1 := by rw [e_2]; exact gr_mo (gr_tr (gr_rf (h := h)) (gr_app (.inl (3, q - p, .inl (fun _ => 0))))) (fun _ q => q) (by first | exact Nat.le_refl _ | omega) (by first | exact Nat.le_refl _ | (simp only [ab_z]; omega))
    have n_4 : h_1.length = h.length + 1 := by rw [e_2]; simp
    have c_5 : h_1[v]? = some (.inl (3, w.length, .inl f)) := by rw [e_2]; exact ha_old _ c1
    have c_6 : h_1[h.length]? = some (.inl (3, q - p, .inl (fun _ => 0))) := by rw [e_2]; exact ha_new
    refine rt_k (k := 6) (pc' := 20) (L' := [some (.ref v), some (.int (nI p)), some (.int (nI q)), some (.int (nI (q - p))), some (.ref h.length)]) (st' := [.ref v, .int (nI 0), .ref h.length, .int (nI p), .ref v]) (h' := h_1) (fun _ => rfl) ?_
    refine rt_aln rfl c_5 (by decide) ?_
    refine rt_k (k := 1) (pc' := 22) (L' := [some (.ref v), some (.int (nI p)), some (.int (nI q)), some (.int (nI (q - p))), some (.ref h.length)]) (st' := [.int (nI p), .int (nI w.length), .int (nI 0), .ref h.length, .int (nI p), .ref v]) (h' := h_1) (fun _ => rfl) ?_
    refine rt_sub rfl (by omega) ?_
    refine rt_k (k := 1) (pc' := 24) (L' := [some (.ref v), some (.int (nI p)), some (.int (nI q)), some (.int (nI (q - p))), some (.ref h.length)]) (st' := [.int (nI (q - p)), .int (nI (w.length - p)), .int (nI 0), .ref h.length, .int (nI p), .ref v]) (h' := h_1) (fun _ => rfl) ?_
    have gA := g_3
    have cA := c_6
    have cV := c_5
    have lA : h_1.length = h.length + 1 := by omega
    generalize h_1 = h1 at *
    refine rt_min rfl (by omega) (by omega) (show (4 : Nat) ≤ 6 by decide) ?_
    have em : min (w.length - p) (q - p) = q - p := by omega
    rw [em]
    refine rt_acB rfl cV cA (by omega) rfl rfl (by omega) (by omega) ⟨by omega, by omega⟩ (by decide) (fun i hi => ?_) ?_
    · rw [hf (p + i) (by omega)]; exact by8_f ⟨_, getD_lt hw.2 _⟩
    refine rt_nm (fun h9 e2 => ?_)
    have cN : h9[h.length]? = some (.inl (3, q - p, .inl (va_cpy f (fun _ => 0) p 0 (q - p)))) := by rw [e2]; exact hs_self cA
    have F2 : fr_ (fun z => z = h.length) h1 h9 := by rw [e2]; exact fr_set cA rfl rfl
    have hsl : (sl w p q).length = q - p := sl_len h2
    refine rt_n rfl ?_
    refine rt_r (v := some (.ref h.length)) rfl rfl ⟨h.length, rfl, ⟨by rw [F2.1]; omega, by rw [F2.1]; omega, by rw [F2.2.1]; exact gA.2.2.1, fun k hk _ => by rw [F2.2.2 k (by omega)]; exact gA.2.2.2 k hk id⟩, rfl, by rw [F2.1]; exact lA, _, ⟨by unfold zz; omega, by rw [hsl]; exact cN⟩, fun i hi => ?_⟩
    rw [hsl] at hi
    unfold va_cpy
    rw [if_pos ⟨by omega, by omega⟩, Nat.sub_zero, sl_getD (by omega)]
    exact hf (p + i) (by omega)
  have go : rt_ X (d + 2) 193 10 [some (.ref v), some (.int (nI p)), some (.int (nI q))] [] h (fun r h' => ∃ a : Nat, r = some (.ref a) ∧ gr (fun _ => False) 1 (q - p) h h' ∧ a = h.length ∧ h'.length = h.length + 1 ∧ sSb h' a (sl w p q)) := by
    refine rt_k (k := 3) (pc' := 13) (L' := [some (.ref v), some (.int (nI p)), some (.int (nI q))]) (st' := [.int (nI q), .int (nI p), .ref v]) (h' := h) (fun _ => rfl) ?_
    refine rt_c rfl rfl main ?_
    rintro _ h' ⟨a, rfl, g1, g2, g3, g4⟩
    exact rt_r (v := some (.ref a)) rfl rfl (⟨a, rfl, g1, g2, g3, g4⟩)
  refine rt_k (k := 1) (pc' := 1) (L' := [some (.ref v), some (.int (nI p)), some (.int (nI q))]) (st' := [.int (nI p)]) (h' := h) (fun _ => rfl) ?_
  refine rt_zne rfl (by omega) (fun z => ?_) (fun z => ?_)
  ·
    exact go
  refine rt_k (k := 2) (pc' := 6) (L' := [some (.ref v), some (.int (nI p)), some (.int (nI q))]) (st' := [.ref v, .int (nI q)]) (h' := h) (fun _ => rfl) ?_
  refine rt_aln rfl c1 (by decide) ?_
  refine rt_ieq rfl (by omega) (by omega) (fun z => absurd z (by omega)) (fun _ => ?_)
  exact go
theorem st_sub {a p q : Nat} {w : kW} (A : sS h a w) (h1 : p ≤ q) (h2 : q ≤ w.length) (h39 : 39 ≤ h.length) : rt_ X (d + 5) 189 0 [some (.ref a), some (.int (nI p)), some (.int (nI q)), none, none] [] h (fun r h' => ∃ v, r = some v ∧ gr (fun _ => False) 2 (4 + (q - p)) h h' ∧ sVl h' v (sl w p q)) := by
  obtain ⟨v, x, y, ⟨-, c1⟩, A1, A2, A3⟩ := id A
  have hla : rt_ X (d + 4) 183 0 [some (.ref a)] [] h (fun r h' => r = some (.int (nI 1)) ∧ h' = h) := by
    refine rt_k (k := 3) (pc' := 7) (L' := [some (.ref a)]) (st' := [.ref a]) (h' := h) (fun _ => rfl) ?_
    refine rt_gf rfl c1 rfl rfl ?_
    refine rt_k (k := 3) (pc' := 18) (L' := [some (.ref a)]) (st' := [.int (nI 1)]) (h' := h) (fun _ => rfl) ?_
    exact rt_r (v := some (.int (nI 1))) rfl rfl (⟨rfl, rfl⟩)
  have cont : ¬ (p = 0 ∧ q = w.length) → rt_ X (d + 5) 189 22 [some (.ref a), some (.int (nI p)), some (.int (nI q)), some (.int (nI w.length)), none] [] h (fun r h' => ∃ v, r = some v ∧ gr (fun _ => False) 2 (4 + (q - p)) h h' ∧ sVl h' v (sl w p q)) := fun hne => by
    have hns : rt_ X (d + 4) 192 0 [some (.ref v), some (.int (nI p)), some (.int (nI (q - p)))] [] h (fun r h' => ∃ v, r = some v ∧ gr (fun _ => False) 2 (4 + (q - p)) h h' ∧ sVl h' v (sl w p q)) := by
      refine rt_k (k := 1) (pc' := 1) (L' := [some (.ref v), some (.int (nI p)), some (.int (nI (q - p)))]) (st' := [.int (nI (q - p))]) (h' := h) (fun _ => rfl) ?_
      refine rt_zne rfl (by omega) (fun z => ?_) (fun z => ?_)
      rotate_left
      ·
        have e0 : sl w p q = [] := sl_nil (by omega)
        refine rt_k (k := 1) (pc' := 6) (L' := [some (.ref v), some (.int (nI p)), some (.int (nI (q - p)))]) (st' := [.retAddr 5]) (h' := h) (fun _ => rfl) ?_
        exact rt_r (v := some (.retAddr 5)) rfl rfl (⟨_, rfl, gr_mo gr_rf (fun _ q => q) (by omega) (by omega), Or.inr ⟨rfl, e0⟩⟩)
      refine rt_k (k := 1) (pc' := 10) (L' := [some (.ref v), some (.int (nI p)), some (.int (nI (q - p)))]) (st' := [.ref h.length]) (h' := (h ++ [.inr (17, [.null, .int (nI 0), .int (nI 0), .int (nI 0)])])) (fun _ => rfl) ?_
      refine rt_nm (fun h_7 e_8 => ?_)
      have g_9 : gr (fun _ => False) 1 (4) h h_7 := by rw [e_8]; exact gr_mo (gr_tr (gr_rf (h := h)) (gr_app (.inr (17, [.null, .int (nI 0), .int (nI 0), .int (nI 0)])))) (fun _ q => q) (by first | exact Nat.le_refl _ | omega) (by first | exact Nat.le_refl _ | (simp only [ab_z]; omega))
      have n_10 : h_7.length = h.length + 1 := by rw [e_8]; simp
      have c_11 : h_7[h.length]? = some (.inr (17, [.null, .int (nI 0), .int (nI 0), .int (nI 0)])) := by rw [e_8]; exact ha_new
      refine rt_k (k := 5) (pc' := 15) (L' := [some (.ref v), some (.int (nI p)), some (.int (nI (q - p)))]) (st' := [.int (nI (q - p)), .int (nI p), .int (nI p), .ref v, .ref h.length, .ref h.length]) (h' := h_7) (fun _ => rfl) ?_
      refine rt_add rfl ?_
      rw [show p + (q - p) = q by omega]
      have gA := g_9
      have cA := c_11
      have lA : h_7.length = h.length + 1 := by omega
      have AA := A1.ex (gr_ex gA (fun _ _ => id))
      generalize h_7 = h1 at *
      refine rt_c rfl rfl (jd_cor (d := d + 1) AA ⟨A2, A3⟩ (by omega) h2 hne (by omega)) ?_
      rintro _ h2' ⟨a2, rfl, g1, g2, g3, g4⟩
      have cB := gr_at g1 cA id
      obtain ⟨ff, ⟨zz2, cc2⟩, hh2⟩ := id g4
      have hna : ¬ a2 = h.length := by omega
      have hsl : (sl w p q).length = q - p := sl_len h2
      have hin : rt_ X (d + 3) 196 0 [some (.ref h.length), some (.ref a2), some (.int (nI 0))] [] h2' (fun r h' => r = none ∧ fr_ (fun z => z = h.length) h2' h' ∧ h'[h.length]? = some (.inr (17, [.ref a2, .int (nI 0), .int (nI 0), .int (nI 0)]))) := by
        refine rt_k (k := 4) (pc' := 6) (L' := [some (.ref h.length), some (.ref a2), some (.int (nI 0))]) (st' := [.ref a2, .ref h.length]) (h' := h2') (fun _ => rfl) ?_
        refine rt_pf rfl cB ⟨rfl, (show 0 < 4 by decide), rfl⟩ ?_
        refine rt_nm (fun h_12 e_13 => ?_)
        have f_14 : fr_ (fun z => z = h.length) h2' h_12 := by rw [e_13]; exact fr_set (e' := .inr (17, [.ref a2, .int (nI 0), .int (nI 0), .int (nI 0)])) cB (by rfl) (by first | decide | simp)
        have n_15 : h_12.length = h2'.length := by rw [e_13]; simp
        have c_16 : h_12[h.length]? = some (.inr (17, [.ref a2, .int (nI 0), .int (nI 0), .int (nI 0)])) := by rw [e_13]; exact hs_self cB
        refine rt_k (k := 2) (pc' := 11) (L' := [some (.ref h.length), some (.ref a2), some (.int (nI 0))]) (st' := [.int (nI 0), .ref h.length]) (h' := h_12) (fun _ => rfl) ?_
        refine rt_pf rfl c_16 ⟨rfl, (show 1 < 4 by decide), rfl⟩ ?_
        refine rt_nm (fun h_17 e_18 => ?_)
        have f_19 : fr_ (fun z => z = h.length) h2' h_17 := by rw [e_18]; exact fr_tr f_14 (fr_set (e' := .inr (17, [.ref a2, .int (nI 0), .int (nI 0), .int (nI 0)])) c_16 (by rfl) (by first | decide | simp))
        have n_20 : h_17.length = h_12.length := by rw [e_18]; simp
        have c_21 : h_17[h.length]? = some (.inr (17, [.ref a2, .int (nI 0), .int (nI 0), .int (nI 0)])) := by rw [e_18]; exact hs_self c_16
        exact rt_r (v := none) rfl rfl ⟨rfl, f_19, c_21⟩
      refine rt_k (k := 1) (pc' := 20) (L' := [some (.ref v), some (.int (nI p)), some (.int (nI (q - p)))]) (st' := [.int (nI 0), .ref a2, .ref h.length, .ref h.length]) (h' := h2') (fun _ => rfl) ?_
      refine rt_c rfl rfl hin ?_
      rintro _ h3 ⟨rfl, F3, c3⟩
      have gAB := gr_tr gA g1
      exact rt_r (v := some (.ref h.length)) rfl rfl (⟨_, rfl, ⟨by rw [F3.1]; exact gAB.1, by rw [F3.1]; exact gAB.2.1, by rw [F3.2.1]; exact gAB.2.2.1, fun k hk _ => by rw [F3.2.2 k (by omega)]; exact gAB.2.2.2 k hk id⟩, Or.inl ⟨h.length, rfl, a2, _, _, ⟨by unfold zz; omega, c3⟩, ⟨ff, ⟨zz2, (F3.2.2 _ hna).trans cc2⟩, hh2⟩, by omega, fun c hc => A3 c (sl_mem hc)⟩⟩)
    refine rt_k (k := 2) (pc' := 24) (L' := [some (.ref a), some (.int (nI p)), some (.int (nI q)), some (.int (nI w.length)), none]) (st' := [.int (nI p), .int (nI q)]) (h' := h) (fun _ => rfl) ?_
    refine rt_sub rfl (by omega) ?_
    refine rt_k (k := 2) (pc' := 28) (L' := [some (.ref a), some (.int (nI p)), some (.int (nI q)), some (.int (nI w.length)), some (.int (nI (q - p)))]) (st' := [.ref a]) (h' := h) (fun _ => rfl) ?_
    refine rt_cvE rfl (by decide) c1 rfl rfl rfl rfl hla ?_
    refine rt_k (k := 2) (pc' := 35) (L' := [some (.ref a), some (.int (nI p)), some (.int (nI q)), some (.int (nI w.length)), some (.int (nI (q - p)))]) (st' := [.ref a]) (h' := h) (fun _ => rfl) ?_
    refine rt_gf rfl c1 rfl rfl ?_
    refine rt_k (k := 2) (pc' := 41) (L' := [some (.ref a), some (.int (nI p)), some (.int (nI q)), some (.int (nI w.length)), some (.int (nI (q - p)))]) (st' := [.int (nI (q - p)), .int (nI p), .ref v]) (h' := h) (fun _ => rfl) ?_
    refine rt_c rfl rfl hns ?_
    rintro _ h' ⟨v', rfl, g1, g2⟩
    rcases g2 with ⟨a', rfl, s1⟩ | ⟨rfl, s1⟩
    · refine rt_n rfl ?_
      exact rt_r (v := some (.ref a')) rfl rfl ⟨_, rfl, g1, Or.inl ⟨a', rfl, s1⟩⟩
    · refine rt_n rfl ?_
      exact rt_r (v := some (.retAddr 5)) rfl rfl ⟨_, rfl, g1, Or.inr ⟨rfl, s1⟩⟩
  refine rt_k (k := 1) (pc' := 1) (L' := [some (.ref a), some (.int (nI p)), some (.int (nI q)), none, none]) (st' := [.ref a]) (h' := h) (fun _ => rfl) ?_
  refine rt_cvE rfl (by decide) c1 rfl rfl rfl rfl (st_len A) ?_
  refine rt_k (k := 4) (pc' := 8) (L' := [some (.ref a), some (.int (nI p)), some (.int (nI q)), some (.int (nI w.length)), none]) (st' := [.int (nI w.length), .int (nI q), .int (nI p)]) (h' := h) (fun _ => rfl) ?_
  refine rt_cE rfl rfl (jd_ft h1 h2 (by omega)) ?_
  refine rt_k (k := 1) (pc' := 12) (L' := [some (.ref a), some (.int (nI p)), some (.int (nI q)), some (.int (nI w.length)), none]) (st' := [.int (nI p)]) (h' := h) (fun _ => rfl) ?_
  refine rt_zne rfl (by omega) (fun z => ?_) (fun z => ?_)
  ·
    exact cont (by omega)
  refine rt_k (k := 2) (pc' := 17) (L' := [some (.ref a), some (.int (nI p)), some (.int (nI q)), some (.int (nI w.length)), none]) (st' := [.int (nI w.length), .int (nI q)]) (h' := h) (fun _ => rfl) ?_
  refine rt_ine rfl (by omega) (by omega) (fun z2 => ?_) (fun z2 => ?_)
  ·
    exact cont (by omega)
  have e : sl w p q = w := by rw [z, z2, sl_all, List.drop_zero]
  refine rt_k (k := 1) (pc' := 21) (L' := [some (.ref a), some (.int (nI p)), some (.int (nI q)), some (.int (nI w.length)), none]) (st' := [.ref a]) (h' := h) (fun _ => rfl) ?_
  exact rt_r (v := some (.ref a)) rfl rfl (⟨_, rfl, gr_mo gr_rf (fun _ q => q) (by omega) (by omega), Or.inl ⟨a, rfl, by rw [e]; exact A⟩⟩)
end SW

