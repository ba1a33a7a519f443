/-! PATHS and RELEASES read. -/
def pCl : Nat → List kW → kD → kD → List kW → Option (kD × kD × List kW)
  | _, [], n, b, o => some (n, b, o)
  | 0, _ :: _, _, _, _ => none
  | f + 1, k :: ws, n, b, o => if k = tx 0 then (if n.length = 6 then none else match ws with
      | [] => none
      | w :: us => if isNm w = true then (match pRng us with
        | some q => pCl f q.2 (n ++ [(w, q.1)]) b o
        | none => none) else none)
    else if k = tx 1 then (if b.length = 3 then none else match ws with
      | [] => none
      | w :: us => if isNm w = true then (match pRng us with
        | some q => pCl f q.2 n (b ++ [(w, q.1)]) o
        | none => none) else none)
    else if k = tx 2 then (if o.length = 4 then none else match ws with
      | [] => none
      | w :: us => if isPt w = true then pCl f us n b (o ++ [w]) else none)
    else none
def pRel (no : Nat) (ws : List kW) : Option kL := match ws with
  | w :: v :: us => if isNm w = true then (match pVer v with
    | some u => (pCl 13 us [] [] []).map (fun q => (no, w, u, q.1, q.2.1, q.2.2))
    | none => none) else none
  | _ => none
section LR
variable {X : Nat × (Nat → Int32)} {d : Nat} {h : List va_E} {Q : Option Value → List va_E → Prop} {T : List Nat} {f b p : Nat} {ws : List kW}
theorem isPt_iff {f b : Nat} (hb : b ≤ T.length) : isPt (sl T f b) = true ↔ (1 ≤ b - f ∧ b - f ≤ 20) ∧ ∀ i, f ≤ i → i < b → (mkb (T.getD i 0) || decide (T.getD i 0 = 46 ∨ T.getD i 0 = 47)) = true := by
  unfold isPt
  rw [sl_len hb, Bool.and_eq_true, decide_eq_true_eq, List.all_eq_true]
  refine and_congr Iff.rfl ⟨fun w i a e => ?_, fun w => sl_allP (P := fun c => mkb c || decide (c = 46 ∨ c = 47)) hb w⟩
  have g := sl_get (T := T) (p := f) (q := b) (i := i - f) (by omega)
  rw [show f + (i - f) = i by omega, List.getElem?_eq_getElem (show i < T.length by omega)] at g
  rw [List.getD_eq_getElem?_getD, List.getElem?_eq_getElem (show i < T.length by omega)]
  exact w _ (List.mem_of_getElem? g)
def ptP (h : List va_E) (T : List Nat) (ws : List kW) (v : Option Value) (h' : List va_E) : Prop := gr r3 1 3 h h' ∧ ((∃ w ws' a, ws = w :: ws' ∧ isPt w = true ∧ v = some (.ref a) ∧ h.length ≤ a ∧ pA h' a w ∧ rG h' T ws') ∨ (¬ nxW ws (fun w => isPt w = true) ∧ v = some .null ∧ rB h' T))
theorem rd_path (h39 : 39 ≤ h.length) (C : rC h T f b p) (W : rW T f b ws) : rt_ X (d + 2) 52 0 [some (.ref 3), none, none] [] h (ptP h T ws) := by
  obtain ⟨P, c, h1, h2, h3⟩ := id C
  have hT := P.2.2.1
  have pt := isPt_iff (T := T) (f := f) (b := b) h2
  have nul : ¬ isPt (sl T f b) = true → ptP h T ws (some .null) h := fun hb => ⟨gr_mo gr_rf (fun _ q => q) (by omega) (by omega), Or.inr ⟨by
    rintro ⟨w, ws', e, hw⟩
    rcases W with ⟨q, -⟩ | ⟨ws'', q, -⟩
    · rw [q] at e; cases e
    · rw [q] at e; cases e; exact hb hw, rfl, f, b, p, C⟩⟩
  refine rt_k (k := 1) (pc' := 1) (L' := [some (.ref 3), none, none]) (st' := [.ref 3]) (h' := h) (fun _ => rfl) ?_
  refine rt_gf rfl c rfl rfl ?_
  refine rt_k (k := 1) (pc' := 5) (L' := [some (.ref 3), none, none]) (st' := [.ref 3, .int (nI b)]) (h' := h) (fun _ => rfl) ?_
  refine rt_gf rfl c rfl rfl ?_
  refine rt_sub rfl (by omega) ?_
  refine rt_k (k := 1) (pc' := 10) (L' := [some (.ref 3), none, none]) (st' := [.int (nI 1), .int (nI (b - f))]) (h' := h) (fun _ => rfl) ?_
  refine rt_ilt rfl (by omega) (by decide) (fun z1 => ?_) (fun z1 => ?_)
  ·
    refine rt_k (k := 1) (pc' := 28) (L' := [some (.ref 3), none, none]) (st' := [.null]) (h' := h) (fun _ => rfl) ?_
    exact rt_r (v := some (.null)) rfl rfl (nul (fun w => by have := (pt.mp w).1; omega))
  refine rt_k (k := 1) (pc' := 14) (L' := [some (.ref 3), none, none]) (st' := [.ref 3]) (h' := h) (fun _ => rfl) ?_
  refine rt_gf rfl c rfl rfl ?_
  refine rt_k (k := 1) (pc' := 18) (L' := [some (.ref 3), none, none]) (st' := [.ref 3, .int (nI b)]) (h' := h) (fun _ => rfl) ?_
  refine rt_gf rfl c rfl rfl ?_
  refine rt_sub rfl (by omega) ?_
  refine rt_k (k := 1) (pc' := 24) (L' := [some (.ref 3), none, none]) (st' := [.int (nI 20), .int (nI (b - f))]) (h' := h) (fun _ => rfl) ?_
  refine rt_ile rfl (by omega) (by decide) (fun z2 => ?_) (fun z2 => ?_)
  rotate_left
  ·
    refine rt_k (k := 1) (pc' := 28) (L' := [some (.ref 3), none, none]) (st' := [.null]) (h' := h) (fun _ => rfl) ?_
    exact rt_r (v := some (.null)) rfl rfl (nul (fun w => by have := (pt.mp w).1; omega))
  refine rt_k (k := 1) (pc' := 30) (L' := [some (.ref 3), none, none]) (st' := [.ref 3]) (h' := h) (fun _ => rfl) ?_
  refine rt_gf rfl c rfl rfl ?_
  refine rt_k (k := 1) (pc' := 34) (L' := [some (.ref 3), some (.int (nI f)), none]) (st' := []) (h' := h) (fun _ => rfl) ?_
  refine rd_pt1 C (fun hall x y => ?_) (fun hex => nul (fun w => by obtain ⟨i, a, e, g⟩ := hex; exact g ((pt.mp w).2 i a e))) f ⟨Nat.le_refl _, h1⟩ (fun j a e => by omega) _
  have hp : isPt (sl T f b) = true := pt.mpr ⟨⟨z1, z2⟩, hall⟩
  rcases W with ⟨-, q, -⟩ | ⟨ws', q, q2, q3, q4, -⟩
  · omega
  refine rt_k (k := 1) (pc' := 79) (L' := [some (.ref 3), x, y]) (st' := [.int (nI 3)]) (h' := h) (fun _ => rfl) ?_
  refine rt_k (k := 1) (pc' := 81) (L' := [some (.ref 3), x, y]) (st' := [.ref h.length]) (h' := (h ++ [.inl (1, 3, .inr (.inl (fun _ => 0)))])) (fun _ => rfl) ?_
  refine rt_nm (fun h_1 e_2 => ?_)
  have g_3 : gr (fun _ => False) 1 (3) h h_1 := by rw [e_2]; exact gr_mo (gr_tr (gr_rf (h := h)) (gr_app (.inl (1, 3, .inr (.inl (fun _ => 0)))))) (fun _ q => q) (by first | exact Nat.le_refl _ | omega) (by first | exact Nat.le_refl _ | (simp only [ab_z]; omega))
  have n_4 : h_1.length = h.length + 1 := by rw [e_2]; simp
  have c_5 : h_1[3]? = some (.inr (2, [.ref 1, .int (nI f), .int (nI b), .int (nI p)])) := by rw [e_2]; exact ha_old _ c
  have c_6 : h_1[h.length]? = some (.inl (1, 3, .inr (.inl (fun _ => 0)))) := by rw [e_2]; exact ha_new
  have gA := g_3
  have cA := c_6
  have c3 := c_5
  have CA := rC_gr C h39 gA
  generalize h_1 = hA at *
  refine rt_k (k := 3) (pc' := 84) (L' := [some (.ref 3), some (.ref h.length), some (.int (nI 0))]) (st' := []) (h' := hA) (fun _ => by cases x <;> cases y <;> rfl) ?_
  refine rt_k (k := 2) (pc' := 86) (L' := [some (.ref 3), some (.ref h.length), some (.int (nI 0))]) (st' := [.ref h.length, .int (nI 0)]) (h' := hA) (fun _ => rfl) ?_
  refine rt_aln rfl cA (by decide) ?_
  refine rt_k (k := 5) (pc' := 94) (L' := [some (.ref 3), some (.ref h.length), some (.int (nI 0))]) (st' := [.ref 3, .ref 3, .int (nI 0), .ref h.length]) (h' := hA) (fun _ => rfl) ?_
  refine rt_gf rfl c3 rfl rfl ?_
  refine rt_k (k := 2) (pc' := 100) (L' := [some (.ref 3), some (.ref h.length), some (.int (nI 0))]) (st' := [.int (nI 8), .int (nI 0), .int (nI f), .ref 3, .int (nI 0), .ref h.length]) (h' := hA) (fun _ => rfl) ?_
  refine rt_mul rfl ?_
  refine rt_add rfl ?_
  refine rt_k (k := 1) (pc' := 103) (L' := [some (.ref 3), some (.ref h.length), some (.int (nI 0))]) (st' := [.ref 3, .int (nI (f + 0)), .ref 3, .int (nI 0), .ref h.length]) (h' := hA) (fun _ => rfl) ?_
  refine rt_gf rfl c3 rfl rfl ?_
  refine rt_cvE rfl (by decide) c3 rfl rfl rfl rfl (rd_packed CA (s := f + 0) (t := b) h2 (by omega)) ?_
  refine rt_lasN rfl cA rfl (by omega) (by decide) ?_
  refine rt_nm (fun h_7 e_8 => ?_)
  have f_9 : fr_ (fun z => z = h.length) hA h_7 := by rw [e_8]; exact fr_set (e' := .inl (1, 3, .inr (.inl (vp_updL (fun _ => 0) 0 (nmI (sl T (f + 0) b)))))) cA (by rfl) (by first | decide | simp)
  have n_10 : h_7.length = hA.length := by rw [e_8]; simp
  have c_11 : h_7[3]? = some (.inr (2, [.ref 1, .int (nI f), .int (nI b), .int (nI p)])) := by rw [e_8]; exact hs_ne c3 (by omega)
  have c_12 : h_7[h.length]? = some (.inl (1, 3, .inr (.inl (vp_updL (fun _ => 0) 0 (nmI (sl T (f + 0) b)))))) := by rw [e_8]; exact hs_self cA
  have f1 := f_9
  have C1 : rC h_7 T f b p := by
    obtain ⟨⟨u1, ⟨gg, u2, u3⟩, u4, u5⟩, u6, u7⟩ := CA
    exact ⟨⟨fr_at f1 (by omega) u1, ⟨gg, fr_at f1 (by omega) u2, u3⟩, u4, u5⟩, fr_at f1 (by omega) u6, u7⟩
  refine rt_inc (c := 1) rfl rfl ?_
  refine rt_k (k := 3) (pc' := 86) (L' := [some (.ref 3), some (.ref h.length), some (.int (nI 1))]) (st' := [.ref h.length, .int (nI 1)]) (h' := h_7) (fun _ => rfl) ?_
  refine rt_aln rfl c_12 (by decide) ?_
  refine rt_k (k := 5) (pc' := 94) (L' := [some (.ref 3), some (.ref h.length), some (.int (nI 1))]) (st' := [.ref 3, .ref 3, .int (nI 1), .ref h.length]) (h' := h_7) (fun _ => rfl) ?_
  refine rt_gf rfl c_11 rfl rfl ?_
  refine rt_k (k := 2) (pc' := 100) (L' := [some (.ref 3), some (.ref h.length), some (.int (nI 1))]) (st' := [.int (nI 8), .int (nI 1), .int (nI f), .ref 3, .int (nI 1), .ref h.length]) (h' := h_7) (fun _ => rfl) ?_
  refine rt_mul rfl ?_
  refine rt_add rfl ?_
  refine rt_k (k := 1) (pc' := 103) (L' := [some (.ref 3), some (.ref h.length), some (.int (nI 1))]) (st' := [.ref 3, .int (nI (f + 8)), .ref 3, .int (nI 1), .ref h.length]) (h' := h_7) (fun _ => rfl) ?_
  refine rt_gf rfl c_11 rfl rfl ?_
  refine rt_cvE rfl (by decide) c_11 rfl rfl rfl rfl (rd_packed C1 (s := f + 8) (t := b) h2 (by omega)) ?_
  refine rt_lasN rfl c_12 rfl (by omega) (by decide) ?_
  refine rt_nm (fun h_13 e_14 => ?_)
  have f_15 : fr_ (fun z => z = h.length) hA h_13 := by rw [e_14]; exact fr_tr f_9 (fr_set (e' := .inl (1, 3, .inr (.inl (vp_updL (vp_updL (fun _ => 0) 0 (nmI (sl T (f + 0) b))) 1 (nmI (sl T (f + 8) b)))))) c_12 (by rfl) (by first | decide | simp))
  have n_16 : h_13.length = h_7.length := by rw [e_14]; simp
  have c_17 : h_13[3]? = some (.inr (2, [.ref 1, .int (nI f), .int (nI b), .int (nI p)])) := by rw [e_14]; exact hs_ne c_11 (by omega)
  have c_18 : h_13[h.length]? = some (.inl (1, 3, .inr (.inl (vp_updL (vp_updL (fun _ => 0) 0 (nmI (sl T (f + 0) b))) 1 (nmI (sl T (f + 8) b)))))) := by rw [e_14]; exact hs_self c_12
  have f2 := f_15
  have C2 : rC h_13 T f b p := by
    obtain ⟨⟨u1, ⟨gg, u2, u3⟩, u4, u5⟩, u6, u7⟩ := CA
    exact ⟨⟨fr_at f2 (by omega) u1, ⟨gg, fr_at f2 (by omega) u2, u3⟩, u4, u5⟩, fr_at f2 (by omega) u6, u7⟩
  refine rt_inc (c := 1) rfl rfl ?_
  refine rt_k (k := 3) (pc' := 86) (L' := [some (.ref 3), some (.ref h.length), some (.int (nI 2))]) (st' := [.ref h.length, .int (nI 2)]) (h' := h_13) (fun _ => rfl) ?_
  refine rt_aln rfl c_18 (by decide) ?_
  refine rt_k (k := 5) (pc' := 94) (L' := [some (.ref 3), some (.ref h.length), some (.int (nI 2))]) (st' := [.ref 3, .ref 3, .int (nI 2), .ref h.length]) (h' := h_13) (fun _ => rfl) ?_
  refine rt_gf rfl c_17 rfl rfl ?_
  refine rt_k (k := 2) (pc' := 100) (L' := [some (.ref 3), some (.ref h.length), some (.int (nI 2))]) (st' := [.int (nI 8), .int (nI 2), .int (nI f), .ref 3, .int (nI 2), .ref h.length]) (h' := h_13) (fun _ => rfl) ?_
  refine rt_mul rfl ?_
  refine rt_add rfl ?_
  refine rt_k (k := 1) (pc' := 103) (L' := [some (.ref 3), some (.ref h.length), some (.int (nI 2))]) (st' := [.ref 3, .int (nI (f + 16)), .ref 3, .int (nI 2), .ref h.length]) (h' := h_13) (fun _ => rfl) ?_
  refine rt_gf rfl c_17 rfl rfl ?_
  refine rt_cvE rfl (by decide) c_17 rfl rfl rfl rfl (rd_packed C2 (s := f + 16) (t := b) h2 (by omega)) ?_
  refine rt_lasN rfl c_18 rfl (by omega) (by decide) ?_
  refine rt_nm (fun h_19 e_20 => ?_)
  have f_21 : fr_ (fun z => z = h.length) hA h_19 := by rw [e_20]; exact fr_tr f_15 (fr_set (e' := .inl (1, 3, .inr (.inl (vp_updL (vp_updL (vp_updL (fun _ => 0) 0 (nmI (sl T (f + 0) b))) 1 (nmI (sl T (f + 8) b))) 2 (nmI (sl T (f + 16) b)))))) c_18 (by rfl) (by first | decide | simp))
  have n_22 : h_19.length = h_13.length := by rw [e_20]; simp
  have c_23 : h_19[3]? = some (.inr (2, [.ref 1, .int (nI f), .int (nI b), .int (nI p)])) := by rw [e_20]; exact hs_ne c_17 (by omega)
  have c_24 : h_19[h.length]? = some (.inl (1, 3, .inr (.inl (vp_updL (vp_updL (vp_updL (fun _ => 0) 0 (nmI (sl T (f + 0) b))) 1 (nmI (sl T (f + 8) b))) 2 (nmI (sl T (f + 16) b)))))) := by rw [e_20]; exact hs_self c_18
  refine rt_inc (c := 1) rfl rfl ?_
  refine rt_k (k := 3) (pc' := 86) (L' := [some (.ref 3), some (.ref h.length), some (.int (nI 3))]) (st' := [.ref h.length, .int (nI 3)]) (h' := h_19) (fun _ => rfl) ?_
  refine rt_aln rfl c_24 (by decide) ?_
  refine rt_k (k := 1) (pc' := 116) (L' := [some (.ref 3), some (.ref h.length), some (.int (nI 3))]) (st' := []) (h' := h_19) (fun _ => rfl) ?_
  have f3 := f_21
  have cF := c_24
  have C3 : rC h_19 T f b p := by
    obtain ⟨⟨u1, ⟨gg, u2, u3⟩, u4, u5⟩, u6, u7⟩ := CA
    exact ⟨⟨fr_at f3 (by omega) u1, ⟨gg, fr_at f3 (by omega) u2, u3⟩, u4, u5⟩, fr_at f3 (by omega) u6, u7⟩
  have g3 : gr (fun _ => False) 1 3 h h_19 := ⟨by rw [f3.1]; exact gA.1, by rw [f3.1]; exact gA.2.1, by rw [f3.2.1]; exact gA.2.2.1, fun k hk _ => by rw [f3.2.2 k (by omega)]; exact gA.2.2.2 k hk id⟩
  generalize h_19 = hz at *
  have cz := C3.2.1
  refine rt_k (k := 1) (pc' := 117) (L' := [some (.ref 3), some (.ref h.length), some (.int (nI 3))]) (st' := [.ref 3]) (h' := hz) (fun _ => rfl) ?_
  refine rt_cv rfl (by decide) cz rfl rfl rfl rfl (rd_nx C3) ?_
  rintro _ h9 ⟨rfl, f9, f', b', C9, W9⟩
  rw [← q4] at W9
  have g9 : gr r3 1 3 h h9 := gr_mo (gr_tr (gr_mo g3 (fun _ q => absurd q id) (Nat.le_refl _) (Nat.le_refl _)) (gr_fr f9)) (fun _ q => q) (by omega) (by omega)
  have hP : ∀ j, j < 3 → (vp_updL (vp_updL (vp_updL (fun _ => 0) 0 (nmI (sl T (f + 0) b))) 1 (nmI (sl T (f + 8) b))) 2 (nmI (sl T (f + 16) b))) j = ptI (sl T f b) j := fun j hj => by
    unfold ptI
    rw [sl_drop]
    rcases Nat.lt_or_ge j 1 with w | w
    · rw [show j = 0 by omega]; rfl
    rcases Nat.lt_or_ge j 2 with w | w
    · rw [show j = 1 by omega]; rfl
    · rw [show j = 2 by omega]; rfl
  refine rt_k (k := 1) (pc' := 121) (L' := [some (.ref 3), some (.ref h.length), some (.int (nI 3))]) (st' := [.ref h.length]) (h' := h9) (fun _ => rfl) ?_
  exact rt_r (v := some (.ref h.length)) rfl rfl (⟨g9, Or.inl ⟨_, ws', h.length, q, hp, rfl, Nat.le_refl _, ⟨_, fr_at f9 (show ¬ r3 h.length by unfold r3; omega) cF, hP⟩, f', b', p, C9, W9⟩⟩)
end LR

