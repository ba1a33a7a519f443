/-! THE REFERENCE, 2: its words. -/
/-- the reference's own cell: tape's length, words, place; count, made, roots, keptCount, generations, steps, nameCount, bestCount, known -/
def mo (tl nw pa : Int32) (o : Nat → Int32) : va_E := .inr (12, [.ref 24, .int tl, .ref 25, .int nw, .int pa, .ref 26, .int (o 0), .int (o 1), .ref 27, .ref 28, .int (o 2), .ref 29, .int (o 3), .int (o 4), .ref 30, .ref 31, .int (o 5), .ref 32, .int (o 6), .ref 33, .ref 34, .int (o 7), .int (o 8), .ref 35])
def mWf (h : List va_E) (F : Nat → Option Nat) (ws : List kW) : Prop := ∀ (i : Nat) w, ws[i]? = some w → ∃ a, F i = some a ∧ sS h a w
def mW (h : List va_E) (ws : List kW) : Prop := ∃ F : Nat → Option Nat, h[25]? = some (.inl (9, 400, .inr (.inr (.inr (.inr F))))) ∧ ws.length ≤ 400 ∧ mWf h F ws
theorem mWf.ex {h h' : List va_E} {F : Nat → Option Nat} {ws : List kW} (E : ex_ h h') (C : mWf h F ws) : mWf h' F ws := fun i w hw => by
  obtain ⟨a, x, y⟩ := C i w hw
  exact ⟨a, x, y.ex E⟩
theorem mW.ex {h h' : List va_E} {ws : List kW} (E : ex_ h h') (e : h'[25]? = h[25]?) (C : mW h ws) : mW h' ws := by
  obtain ⟨F, a, b, c⟩ := C
  exact ⟨F, e.trans a, b, c.ex E⟩
abbrev mA : Nat → Prop := fun z => z = 23 ∨ z = 25
theorem mA_zz : ∀ k, zz k → ¬ mA k := fun k q => by unfold zz at q; unfold mA; omega
section MB
variable {X : Nat × (Nat → Int32)} {d : Nat} {h : List va_E} {Q : Option Value → List va_E → Prop} {T : List Nat} {o : Nat → Int32} {ws : List kW} {tl nw pa : Int32}
theorem wl_end {p : Nat} (hp : T.length ≤ p) : wl (T.drop p) = [] := by rw [List.drop_of_length_le hp]; rfl
theorem wl_sp {p : Nat} (hp : p < T.length) (e : T.getD p 0 = 32) : wl (T.drop p) = wl (T.drop (p + 1)) := by
  have ec : T.drop p = T.getD p 0 :: T.drop (p + 1) := by
    rw [List.drop_eq_getElem_cons hp, List.getD_eq_getElem?_getD, List.getElem?_eq_getElem hp]; rfl
  rw [ec, e]
  unfold wl
  rw [wlF_mo ((T.drop (p + 1)).length + 1) ((T.drop (p + 1)).length + 1 + 1) _ (by omega) (by omega)]
  rw [List.length_cons]
  conv => lhs; unfold wlF
  conv => rhs; unfold wlF
  rw [List.dropWhile_cons, if_pos (by decide)]
theorem wl_wd {f b : Nat} (hfb : f < b) (hb : b ≤ T.length) (hn : ∀ i, f ≤ i → i < b → ¬ T.getD i 0 = 32) (he : b = T.length ∨ T.getD b 0 = 32) : wl (T.drop f) = sl T f b :: wl (T.drop b) := by
  have hw := sl_while (T := T) (P := fun c => !decide (c = 32)) (b := T.length) (Nat.le_refl _) (b - f) f b rfl (by omega) hb (fun i h1 h2 => by simpa using hn i h1 h2) (by rcases he with e | e; exact Or.inl e; exact Or.inr (by rw [e]; rfl))
  rw [sl_all, sl_all] at hw
  have ec : T.drop f = T.getD f 0 :: T.drop (f + 1) := by
    rw [List.drop_eq_getElem_cons (by omega), List.getD_eq_getElem?_getD, List.getElem?_eq_getElem (by omega)]; rfl
  have hd : (T.drop f).dropWhile (fun c => decide (c = 32)) = T.drop f := by
    rw [ec, List.dropWhile_cons, if_neg (by simpa using hn f (Nat.le_refl _) hfb)]
  unfold wl
  conv => lhs; unfold wlF
  rw [hd]
  rw [wlF_mo ((T.drop b).length + 1) (T.drop f).length _ (by omega) (by rw [List.length_drop, List.length_drop]; omega)]
  rw [ec] at hw ⊢
  dsimp only
  rw [hw.1, hw.2]
/-- the end of a word -/
theorem mw_end {g : Nat → Int32} (c23 : h[23]? = some (mo (nI T.length) nw pa o)) (c24 : h[24]? = some (.inl (0, 400, .inl g))) (hg : ∀ j, j < T.length → g j = nI (T.getD j 0)) (hT : T.length ≤ 400 ∧ ∀ c ∈ T, c < 256) (f p : Nat) (hfp : f ≤ p) (hp : p ≤ T.length) (hn : ∀ i, f ≤ i → i < p → ¬ T.getD i 0 = 32) (k : ∀ b, p ≤ b → b ≤ T.length → (∀ i, f ≤ i → i < b → ¬ T.getD i 0 = 32) → (b = T.length ∨ T.getD b 0 = 32) → rt_ X d 132 64 [some (.ref 23), some (.int (nI b)), some (.int (nI f))] [] h Q) : rt_ X d 132 39 [some (.ref 23), some (.int (nI p)), some (.int (nI f))] [] h Q := by
  refine rt_k (k := 2) (pc' := 41) (L' := [some (.ref 23), some (.int (nI p)), some (.int (nI f))]) (st' := [.ref 23, .int (nI p)]) (h' := h) (fun _ => rfl) ?_
  refine rt_gf rfl c23 rfl rfl ?_
  refine rt_ige rfl (by omega) (by omega) (fun z => ?_) (fun z => ?_)
  ·
    exact k p (Nat.le_refl _) hp hn (Or.inl (by omega))
  have hc := getD_lt hT.2 p
  refine rt_k (k := 1) (pc' := 48) (L' := [some (.ref 23), some (.int (nI p)), some (.int (nI f))]) (st' := [.ref 23]) (h' := h) (fun _ => rfl) ?_
  refine rt_gf rfl c23 rfl rfl ?_
  refine rt_k (k := 1) (pc' := 52) (L' := [some (.ref 23), some (.int (nI p)), some (.int (nI f))]) (st' := [.int (nI p), .ref 24]) (h' := h) (fun _ => rfl) ?_
  refine rt_calN rfl c24 rfl (by omega) (by decide) (hg p z) ?_
  refine rt_k (k := 1) (pc' := 55) (L' := [some (.ref 23), some (.int (nI p)), some (.int (nI f))]) (st' := [.int (nI 32), .int (nI (T.getD p 0))]) (h' := h) (fun _ => rfl) ?_
  refine rt_ieq rfl (by omega) (by decide) (fun z2 => ?_) (fun z2 => ?_)
  ·
    exact k p (Nat.le_refl _) hp hn (Or.inr z2)
  refine rt_inc (c := 1) rfl rfl ?_
  refine rt_k (k := 1) (pc' := 39) (L' := [some (.ref 23), some (.int (nI (p + 1))), some (.int (nI f))]) (st' := []) (h' := h) (fun _ => rfl) ?_
  exact mw_end c23 c24 hg hT f (p + 1) (by omega) z (fun i h1 h2 => by
    by_cases q : i = p
    · subst q; exact z2
    · exact hn i h1 (by omega)) (fun b h1 => k b (by omega))
termination_by T.length - p
theorem mw_loop {h0 : List va_E} {g : Nat → Int32} (h39 : 39 ≤ h0.length) (hg : ∀ j, j < T.length → g j = nI (T.getD j 0)) (hT : T.length ≤ 400 ∧ ∀ c ∈ T, c < 256) (p : Nat) (h : List va_E) (ws : List kW) (G : gr mA (2 * p) (5 * p) h0 h) (c23 : h[23]? = some (mo (nI T.length) (nI ws.length) (nI 0) o)) (c24 : h[24]? = some (.inl (0, 400, .inl g))) (W : mW h ws) (hp : p ≤ T.length) (hws : ws.length ≤ p) (e : wl T = ws ++ wl (T.drop p)) (x2 : Option Value) : rt_ X (d + 5) 132 12 [some (.ref 23), some (.int (nI p)), x2] [] h (fun v h' => v = none ∧ gr mA (2 * T.length) (5 * T.length) h0 h' ∧ h'[23]? = some (mo (nI 0) (nI (wl T).length) (nI 0) o) ∧ mW h' (wl T)) := by
  obtain ⟨F, c25, hw4, HF⟩ := id W
  refine rt_k (k := 2) (pc' := 14) (L' := [some (.ref 23), some (.int (nI p)), x2]) (st' := [.ref 23, .int (nI p)]) (h' := h) (fun _ => rfl) ?_
  refine rt_gf rfl c23 rfl rfl ?_
  refine rt_ige rfl (by omega) (by omega) (fun z => ?_) (fun z => ?_)
  ·
    rw [wl_end z, List.append_nil] at e
    rw [e]
    refine rt_k (k := 2) (pc' := 103) (L' := [some (.ref 23), some (.int (nI p)), x2]) (st' := [.int (nI 0), .ref 23]) (h' := h) (fun _ => rfl) ?_
    refine rt_pf rfl c23 ⟨rfl, (show 1 < 24 by decide), rfl⟩ ?_
    refine rt_nm (fun h_1 e_2 => ?_)
    have f_3 : fr_ (mA) h h_1 := by rw [e_2]; exact fr_set (e' := .inr (12, [.ref 24, .int (nI 0), .ref 25, .int (nI ws.length), .int (nI 0), .ref 26, .int (o 0), .int (o 1), .ref 27, .ref 28, .int (o 2), .ref 29, .int (o 3), .int (o 4), .ref 30, .ref 31, .int (o 5), .ref 32, .int (o 6), .ref 33, .ref 34, .int (o 7), .int (o 8), .ref 35])) c23 (by rfl) (by first | decide | simp)
    have x_4 : ex_ h h_1 := by rw [e_2]; exact ex_set (e := .inr (12, [.ref 24, .int (nI 0), .ref 25, .int (nI ws.length), .int (nI 0), .ref 26, .int (o 0), .int (o 1), .ref 27, .ref 28, .int (o 2), .ref 29, .int (o 3), .int (o 4), .ref 30, .ref 31, .int (o 5), .ref 32, .int (o 6), .ref 33, .ref 34, .int (o 7), .int (o 8), .ref 35])) (by unfold zz; omega)
    have n_5 : h_1.length = h.length := by rw [e_2]; simp
    have c_6 : h_1[23]? = some (.inr (12, [.ref 24, .int (nI 0), .ref 25, .int (nI ws.length), .int (nI 0), .ref 26, .int (o 0), .int (o 1), .ref 27, .ref 28, .int (o 2), .ref 29, .int (o 3), .int (o 4), .ref 30, .ref 31, .int (o 5), .ref 32, .int (o 6), .ref 33, .ref 34, .int (o 7), .int (o 8), .ref 35])) := by rw [e_2]; exact hs_self c23
    have c_7 : h_1[24]? = some (.inl (0, 400, .inl g)) := by rw [e_2]; exact hs_ne c24 (by decide)
    have c_8 : h_1[25]? = some (.inl (9, 400, .inr (.inr (.inr (.inr F))))) := by rw [e_2]; exact hs_ne c25 (by decide)
    exact rt_r (v := none) rfl rfl ⟨rfl, gr_mo (gr_tr G (gr_fr f_3)) (fun _ q => q) (by omega) (by omega), c_6, F, c_8, hw4, HF.ex x_4⟩
  have hc := getD_lt hT.2 p
  refine rt_k (k := 1) (pc' := 21) (L' := [some (.ref 23), some (.int (nI p)), x2]) (st' := [.ref 23]) (h' := h) (fun _ => rfl) ?_
  refine rt_gf rfl c23 rfl rfl ?_
  refine rt_k (k := 1) (pc' := 25) (L' := [some (.ref 23), some (.int (nI p)), x2]) (st' := [.int (nI p), .ref 24]) (h' := h) (fun _ => rfl) ?_
  refine rt_calN rfl c24 rfl (by omega) (by decide) (hg p z) ?_
  refine rt_k (k := 1) (pc' := 28) (L' := [some (.ref 23), some (.int (nI p)), x2]) (st' := [.int (nI 32), .int (nI (T.getD p 0))]) (h' := h) (fun _ => rfl) ?_
  refine rt_ine rfl (by omega) (by decide) (fun z2 => ?_) (fun z2 => ?_)
  rotate_left
  ·
    refine rt_inc (c := 1) rfl rfl ?_
    refine rt_k (k := 1) (pc' := 12) (L' := [some (.ref 23), some (.int (nI (p + 1))), x2]) (st' := []) (h' := h) (fun _ => rfl) ?_
    exact mw_loop h39 hg hT (p + 1) h ws (gr_mo G (fun _ q => q) (by omega) (by omega)) c23 c24 W z (by omega) (by rw [e, wl_sp z z2]) x2
  refine rt_k (k := 2) (pc' := 39) (L' := [some (.ref 23), some (.int (nI p)), some (.int (nI p))]) (st' := []) (h' := h) (fun _ => by cases x2 <;> rfl) ?_
  refine mw_end c23 c24 hg hT p p (Nat.le_refl _) hp (fun i h1 h2 => by omega) (fun b hb1 hb2 h3 h4 => ?_)
  have hb : p < b := by
    rcases Nat.lt_or_ge p b with q | q
    · exact q
    · have e2 : b = p := by omega
      rcases h4 with q2 | q2
      · omega
      · rw [e2] at q2; exact absurd q2 z2
  have e3 := wl_wd hb hb2 h3 h4
  have hl := G.1
  refine rt_k (k := 1) (pc' := 65) (L' := [some (.ref 23), some (.int (nI b)), some (.int (nI p))]) (st' := [.ref 23]) (h' := h) (fun _ => rfl) ?_
  refine rt_gf rfl c23 rfl rfl ?_
  refine rt_k (k := 1) (pc' := 69) (L' := [some (.ref 23), some (.int (nI b)), some (.int (nI p))]) (st' := [.ref 23, .ref 25]) (h' := h) (fun _ => rfl) ?_
  refine rt_gf rfl c23 rfl rfl ?_
  refine rt_k (k := 1) (pc' := 75) (L' := [some (.ref 23), some (.int (nI b)), some (.int (nI p))]) (st' := [.ref h.length, .int (nI ws.length), .ref 25]) (h' := (h ++ [.inr (17, [.null, .int (nI 0), .int (nI 0), .int (nI 0)])])) (fun _ => rfl) ?_
  refine rt_nm (fun h_9 e_10 => ?_)
  have g_11 : gr (mA) 1 (4) h h_9 := by rw [e_10]; exact gr_mo (gr_tr (gr_rf (h := h)) (gr_app (.inr (17, [.null, .int (nI 0), .int (nI 0), .int (nI 0)])))) (fun _ q => q) (by first | exact Nat.le_refl _ | omega) (by first | exact Nat.le_refl _ | (simp only [ab_z]; omega))
  have n_12 : h_9.length = h.length + 1 := by rw [e_10]; simp
  have c_13 : h_9[23]? = some (.inr (12, [.ref 24, .int (nI T.length), .ref 25, .int (nI ws.length), .int (nI 0), .ref 26, .int (o 0), .int (o 1), .ref 27, .ref 28, .int (o 2), .ref 29, .int (o 3), .int (o 4), .ref 30, .ref 31, .int (o 5), .ref 32, .int (o 6), .ref 33, .ref 34, .int (o 7), .int (o 8), .ref 35])) := by rw [e_10]; exact ha_old _ c23
  have c_14 : h_9[24]? = some (.inl (0, 400, .inl g)) := by rw [e_10]; exact ha_old _ c24
  have c_15 : h_9[25]? = some (.inl (9, 400, .inr (.inr (.inr (.inr F))))) := by rw [e_10]; exact ha_old _ c25
  have c_16 : h_9[h.length]? = some (.inr (17, [.null, .int (nI 0), .int (nI 0), .int (nI 0)])) := by rw [e_10]; exact ha_new
  refine rt_k (k := 2) (pc' := 77) (L' := [some (.ref 23), some (.int (nI b)), some (.int (nI p))]) (st' := [.ref 23, .ref h.length, .ref h.length, .int (nI ws.length), .ref 25]) (h' := h_9) (fun _ => rfl) ?_
  refine rt_gf rfl c_13 rfl rfl ?_
  refine rt_k (k := 3) (pc' := 83) (L' := [some (.ref 23), some (.int (nI b)), some (.int (nI p))]) (st' := [.int (nI p), .int (nI b), .int (nI p), .ref 24, .ref h.length, .ref h.length, .int (nI ws.length), .ref 25]) (h' := h_9) (fun _ => rfl) ?_
  refine rt_sub rfl (by omega) ?_
  have g1 := g_11
  have ca := c_16
  have cq := c_14
  have c5 := c_15
  have c3 := c_13
  have ll : h_9.length = h.length + 1 := by omega
  refine rt_c rfl rfl (st_new (T := T) (p := p) (n := b - p) (by omega) ca cq hg hT (by omega) (by omega)) ?_
  rintro _ h2 ⟨rfl, g2, s1, s2⟩
  have l2 := g2.1
  have l3 := g2.2.1
  have d3 := gr_at g2 c3 (by omega)
  have d4 := gr_at g2 cq (by omega)
  have d5 := gr_at g2 c5 (by omega)
  have S : sS h2 h.length (sl T p b) := ⟨_, _, _, ⟨by unfold zz; omega, s1⟩, by rw [show p + (b - p) = b by omega] at s2; exact s2, by rw [sl_len hb2]; omega, fun c hc => hT.2 c (sl_mem hc)⟩
  have G2 : gr mA 2 (4 + (b - p)) h h2 := ⟨by omega, by omega, by have := g1.2.2.1; have := g2.2.2.1; omega, fun k hk hk2 => by rw [g2.2.2.2 k (by omega) (by omega)]; exact g1.2.2.2 k hk hk2⟩
  generalize h_9 = h1 at *
  refine rt_aasN rfl d5 s1 ⟨rfl, rfl⟩ (by omega) (by decide) ?_
  refine rt_nm (fun h_17 e_18 => ?_)
  have f_19 : fr_ (mA) h2 h_17 := by rw [e_18]; exact fr_set (e' := .inl (9, 400, .inr (.inr (.inr (.inr (va_up F ws.length (some h.length))))))) d5 (by rfl) (by first | decide | simp)
  have x_20 : ex_ h2 h_17 := by rw [e_18]; exact ex_set (e := .inl (9, 400, .inr (.inr (.inr (.inr (va_up F ws.length (some h.length))))))) (by unfold zz; omega)
  have n_21 : h_17.length = h2.length := by rw [e_18]; simp
  have c_22 : h_17[h.length]? = some (.inr (17, [.ref h1.length, .int (nI 0), .int (nI 0), .int (nI 0)])) := by rw [e_18]; exact hs_ne s1 (hc_ne d5 s1 (by intro q; cases q))
  have c_23 : h_17[23]? = some (.inr (12, [.ref 24, .int (nI T.length), .ref 25, .int (nI ws.length), .int (nI 0), .ref 26, .int (o 0), .int (o 1), .ref 27, .ref 28, .int (o 2), .ref 29, .int (o 3), .int (o 4), .ref 30, .ref 31, .int (o 5), .ref 32, .int (o 6), .ref 33, .ref 34, .int (o 7), .int (o 8), .ref 35])) := by rw [e_18]; exact hs_ne d3 (by decide)
  have c_24 : h_17[24]? = some (.inl (0, 400, .inl g)) := by rw [e_18]; exact hs_ne d4 (by decide)
  have c_25 : h_17[25]? = some (.inl (9, 400, .inr (.inr (.inr (.inr (va_up F ws.length (some h.length))))))) := by rw [e_18]; exact hs_self d5
  refine rt_k (k := 2) (pc' := 90) (L' := [some (.ref 23), some (.int (nI b)), some (.int (nI p))]) (st' := [.ref 23, .ref 23]) (h' := h_17) (fun _ => rfl) ?_
  refine rt_gf rfl c_23 rfl rfl ?_
  refine rt_k (k := 1) (pc' := 94) (L' := [some (.ref 23), some (.int (nI b)), some (.int (nI p))]) (st' := [.int (nI 1), .int (nI ws.length), .ref 23]) (h' := h_17) (fun _ => rfl) ?_
  refine rt_add rfl ?_
  refine rt_pf rfl c_23 ⟨rfl, (show 3 < 24 by decide), rfl⟩ ?_
  refine rt_nm (fun h_26 e_27 => ?_)
  have f_28 : fr_ (mA) h2 h_26 := by rw [e_27]; exact fr_tr f_19 (fr_set (e' := .inr (12, [.ref 24, .int (nI T.length), .ref 25, .int (nI (ws.length + 1)), .int (nI 0), .ref 26, .int (o 0), .int (o 1), .ref 27, .ref 28, .int (o 2), .ref 29, .int (o 3), .int (o 4), .ref 30, .ref 31, .int (o 5), .ref 32, .int (o 6), .ref 33, .ref 34, .int (o 7), .int (o 8), .ref 35])) c_23 (by rfl) (by first | decide | simp))
  have x_29 : ex_ h2 h_26 := by rw [e_27]; exact ex_tr x_20 (ex_set (e := .inr (12, [.ref 24, .int (nI T.length), .ref 25, .int (nI (ws.length + 1)), .int (nI 0), .ref 26, .int (o 0), .int (o 1), .ref 27, .ref 28, .int (o 2), .ref 29, .int (o 3), .int (o 4), .ref 30, .ref 31, .int (o 5), .ref 32, .int (o 6), .ref 33, .ref 34, .int (o 7), .int (o 8), .ref 35])) (by unfold zz; omega))
  have n_30 : h_26.length = h_17.length := by rw [e_27]; simp
  have c_31 : h_26[h.length]? = some (.inr (17, [.ref h1.length, .int (nI 0), .int (nI 0), .int (nI 0)])) := by rw [e_27]; exact hs_ne c_22 (hc_ne c_23 c_22 (by intro q; cases q))
  have c_32 : h_26[23]? = some (.inr (12, [.ref 24, .int (nI T.length), .ref 25, .int (nI (ws.length + 1)), .int (nI 0), .ref 26, .int (o 0), .int (o 1), .ref 27, .ref 28, .int (o 2), .ref 29, .int (o 3), .int (o 4), .ref 30, .ref 31, .int (o 5), .ref 32, .int (o 6), .ref 33, .ref 34, .int (o 7), .int (o 8), .ref 35])) := by rw [e_27]; exact hs_self c_23
  have c_33 : h_26[24]? = some (.inl (0, 400, .inl g)) := by rw [e_27]; exact hs_ne c_24 (by decide)
  have c_34 : h_26[25]? = some (.inl (9, 400, .inr (.inr (.inr (.inr (va_up F ws.length (some h.length))))))) := by rw [e_27]; exact hs_ne c_25 (by decide)
  refine rt_k (k := 1) (pc' := 12) (L' := [some (.ref 23), some (.int (nI b)), some (.int (nI p))]) (st' := []) (h' := h_26) (fun _ => rfl) ?_
  have F2 := f_28
  have E2 := x_29
  have E1 := gr_ex G2 mA_zz
  have el : (ws ++ [sl T p b]).length = ws.length + 1 := by rw [List.length_append]; rfl
  refine mw_loop h39 hg hT b _ (ws ++ [sl T p b]) (gr_mo (gr_tr G (gr_tr G2 (gr_fr F2))) (fun _ q => q) (by omega) (by omega)) (by rw [el]; exact c_32) c_33 ⟨_, c_34, by rw [el]; omega, ?_⟩ hb2 (by rw [el]; omega) (by rw [e, e3, List.append_assoc]; rfl) _
  intro i w hi
  rcases gt_snoc hi with q | ⟨q, e9⟩
  · obtain ⟨a, x, y⟩ := HF i w q
    have := gt_lt q
    exact ⟨a, by unfold va_up; rw [if_neg (by omega)]; exact x, (y.ex E1).ex E2⟩
  · exact ⟨h.length, by unfold va_up; rw [if_pos q], by rw [e9]; exact S.ex E2⟩
termination_by T.length - p
theorem m_readWords {g : Nat → Int32} (h39 : 39 ≤ h.length) (c23 : h[23]? = some (mo (nI T.length) nw pa o)) (c24 : h[24]? = some (.inl (0, 400, .inl g))) (hg : ∀ j, j < T.length → g j = nI (T.getD j 0)) (hT : T.length ≤ 400 ∧ ∀ c ∈ T, c < 256) (W : mW h []) : rt_ X (d + 5) 132 0 [some (.ref 23), none, none] [] h (fun v h' => v = none ∧ gr mA (2 * T.length) (5 * T.length) h h' ∧ h'[23]? = some (mo (nI 0) (nI (wl T).length) (nI 0) o) ∧ mW h' (wl T)) := by
  obtain ⟨F, c25, hw4, HF⟩ := id W
  refine rt_k (k := 2) (pc' := 2) (L' := [some (.ref 23), none, none]) (st' := [.int (nI 0), .ref 23]) (h' := h) (fun _ => rfl) ?_
  refine rt_pf rfl c23 ⟨rfl, (show 3 < 24 by decide), rfl⟩ ?_
  refine rt_nm (fun h_35 e_36 => ?_)
  have g_37 : gr (mA) 0 (0) h h_35 := by rw [e_36]; exact gr_mo (gr_tr (gr_rf (h := h)) (gr_fr (fr_set (e' := .inr (12, [.ref 24, .int (nI T.length), .ref 25, .int (nI 0), .int pa, .ref 26, .int (o 0), .int (o 1), .ref 27, .ref 28, .int (o 2), .ref 29, .int (o 3), .int (o 4), .ref 30, .ref 31, .int (o 5), .ref 32, .int (o 6), .ref 33, .ref 34, .int (o 7), .int (o 8), .ref 35])) c23 (by rfl) (by first | decide | simp)))) (fun _ q => q) (by first | exact Nat.le_refl _ | omega) (by first | exact Nat.le_refl _ | (simp only [ab_z]; omega))
  have x_38 : ex_ h h_35 := by rw [e_36]; exact ex_set (e := .inr (12, [.ref 24, .int (nI T.length), .ref 25, .int (nI 0), .int pa, .ref 26, .int (o 0), .int (o 1), .ref 27, .ref 28, .int (o 2), .ref 29, .int (o 3), .int (o 4), .ref 30, .ref 31, .int (o 5), .ref 32, .int (o 6), .ref 33, .ref 34, .int (o 7), .int (o 8), .ref 35])) (by unfold zz; omega)
  have n_39 : h_35.length = h.length := by rw [e_36]; simp
  have c_40 : h_35[23]? = some (.inr (12, [.ref 24, .int (nI T.length), .ref 25, .int (nI 0), .int pa, .ref 26, .int (o 0), .int (o 1), .ref 27, .ref 28, .int (o 2), .ref 29, .int (o 3), .int (o 4), .ref 30, .ref 31, .int (o 5), .ref 32, .int (o 6), .ref 33, .ref 34, .int (o 7), .int (o 8), .ref 35])) := by rw [e_36]; exact hs_self c23
  have c_41 : h_35[24]? = some (.inl (0, 400, .inl g)) := by rw [e_36]; exact hs_ne c24 (by decide)
  have c_42 : h_35[25]? = some (.inl (9, 400, .inr (.inr (.inr (.inr F))))) := by rw [e_36]; exact hs_ne c25 (by decide)
  refine rt_k (k := 2) (pc' := 7) (L' := [some (.ref 23), none, none]) (st' := [.int (nI 0), .ref 23]) (h' := h_35) (fun _ => rfl) ?_
  refine rt_pf rfl c_40 ⟨rfl, (show 4 < 24 by decide), rfl⟩ ?_
  refine rt_nm (fun h_43 e_44 => ?_)
  have g_45 : gr (mA) 0 (0) h h_43 := by rw [e_44]; exact gr_mo (gr_tr g_37 (gr_fr (fr_set (e' := .inr (12, [.ref 24, .int (nI T.length), .ref 25, .int (nI 0), .int (nI 0), .ref 26, .int (o 0), .int (o 1), .ref 27, .ref 28, .int (o 2), .ref 29, .int (o 3), .int (o 4), .ref 30, .ref 31, .int (o 5), .ref 32, .int (o 6), .ref 33, .ref 34, .int (o 7), .int (o 8), .ref 35])) c_40 (by rfl) (by first | decide | simp)))) (fun _ q => q) (by first | exact Nat.le_refl _ | omega) (by first | exact Nat.le_refl _ | (simp only [ab_z]; omega))
  have x_46 : ex_ h h_43 := by rw [e_44]; exact ex_tr x_38 (ex_set (e := .inr (12, [.ref 24, .int (nI T.length), .ref 25, .int (nI 0), .int (nI 0), .ref 26, .int (o 0), .int (o 1), .ref 27, .ref 28, .int (o 2), .ref 29, .int (o 3), .int (o 4), .ref 30, .ref 31, .int (o 5), .ref 32, .int (o 6), .ref 33, .ref 34, .int (o 7), .int (o 8), .ref 35])) (by unfold zz; omega))
  have n_47 : h_43.length = h_35.length := by rw [e_44]; simp
  have c_48 : h_43[23]? = some (.inr (12, [.ref 24, .int (nI T.length), .ref 25, .int (nI 0), .int (nI 0), .ref 26, .int (o 0), .int (o 1), .ref 27, .ref 28, .int (o 2), .ref 29, .int (o 3), .int (o 4), .ref 30, .ref 31, .int (o 5), .ref 32, .int (o 6), .ref 33, .ref 34, .int (o 7), .int (o 8), .ref 35])) := by rw [e_44]; exact hs_self c_40
  have c_49 : h_43[24]? = some (.inl (0, 400, .inl g)) := by rw [e_44]; exact hs_ne c_41 (by decide)
  have c_50 : h_43[25]? = some (.inl (9, 400, .inr (.inr (.inr (.inr F))))) := by rw [e_44]; exact hs_ne c_42 (by decide)
  refine rt_k (k := 2) (pc' := 12) (L' := [some (.ref 23), some (.int (nI 0)), none]) (st' := []) (h' := h_43) (fun _ => rfl) ?_
  exact mw_loop h39 hg hT 0 _ [] g_45 c_48 c_49 ⟨F, c_50, by simp, HF.ex x_46⟩ (Nat.zero_le _) (Nat.zero_le _) (by rw [List.drop_zero]; rfl) _
theorem m_here1 {i a : Nat} {F : Nat → Option Nat} (c23 : h[23]? = some (mo tl (nI ws.length) (nI i) o)) (c25 : h[25]? = some (.inl (9, 400, .inr (.inr (.inr (.inr F)))))) (hw : ws.length ≤ 400) (hi : i < ws.length) (ha : F i = some a) : rt_ X d 141 0 [some (.ref 23)] [] h (fun v h' => v = some (.ref a) ∧ h' = h) := by
  refine rt_k (k := 1) (pc' := 1) (L' := [some (.ref 23)]) (st' := [.ref 23]) (h' := h) (fun _ => rfl) ?_
  refine rt_gf rfl c23 rfl rfl ?_
  refine rt_k (k := 1) (pc' := 5) (L' := [some (.ref 23)]) (st' := [.ref 23, .int (nI i)]) (h' := h) (fun _ => rfl) ?_
  refine rt_gf rfl c23 rfl rfl ?_
  refine rt_ige rfl (by omega) (by omega) (fun z => absurd z (by omega)) (fun _ => ?_)
  refine rt_k (k := 1) (pc' := 12) (L' := [some (.ref 23)]) (st' := [.ref 23]) (h' := h) (fun _ => rfl) ?_
  refine rt_gf rfl c23 rfl rfl ?_
  refine rt_k (k := 1) (pc' := 16) (L' := [some (.ref 23)]) (st' := [.ref 23, .ref 25]) (h' := h) (fun _ => rfl) ?_
  refine rt_gf rfl c23 rfl rfl ?_
  refine rt_aalN rfl c25 rfl (by omega) (by decide) ha ?_
  refine rt_k (k := 1) (pc' := 25) (L' := [some (.ref 23)]) (st' := [.ref a]) (h' := h) (fun _ => rfl) ?_
  exact rt_r (v := some (.ref a)) rfl rfl (⟨rfl, rfl⟩)
theorem m_here0 {i : Nat} (c23 : h[23]? = some (mo tl (nI ws.length) (nI i) o)) (hw : ws.length ≤ 400) (hi : i = ws.length) : rt_ X d 141 0 [some (.ref 23)] [] h (fun v h' => v = some (.retAddr 5) ∧ h' = h) := by
  refine rt_k (k := 1) (pc' := 1) (L' := [some (.ref 23)]) (st' := [.ref 23]) (h' := h) (fun _ => rfl) ?_
  refine rt_gf rfl c23 rfl rfl ?_
  refine rt_k (k := 1) (pc' := 5) (L' := [some (.ref 23)]) (st' := [.ref 23, .int (nI i)]) (h' := h) (fun _ => rfl) ?_
  refine rt_gf rfl c23 rfl rfl ?_
  refine rt_ige rfl (by omega) (by omega) (fun _ => ?_) (fun z => absurd z (by omega))
  refine rt_k (k := 1) (pc' := 25) (L' := [some (.ref 23)]) (st' := [.retAddr 5]) (h' := h) (fun _ => rfl) ?_
  exact rt_r (v := some (.retAddr 5)) rfl rfl (⟨rfl, rfl⟩)
end MB

