/-! VERSIONS made and read. -/
section VN
variable {X : Nat × (Nat → Int32)} {d : Nat} {h : List va_E} {Q : Option Value → List va_E → Prop} {T : List Nat} {f b p : Nat} {ws : List kW}
theorem ver_new {a : Nat} {x y z : Int64} (ca : h[a]? = some (.inr (8, [.null]))) : rt_ X d 37 0 [some (.ref a), some (.long x), none, some (.long y), none, some (.long z), none, none] [] h (fun v h' => v = none ∧ gr (fun z => z = a) 1 7 h h' ∧ ∃ g : Nat → Int64, h'[a]? = some (.inr (8, [.ref h.length])) ∧ h'[h.length]? = some (.inl (1, 7, .inr (.inl g))) ∧ g 0 = x ∧ g 1 = y ∧ g 2 = z ∧ g 3 = 9223372036854775807 ∧ g 4 = -1 ∧ g 5 = -1 ∧ g 6 = -1) := by
  have hl := hc_lt ca
  refine rt_k (k := 4) (pc' := 7) (L' := [some (.ref a), some (.long x), none, some (.long y), none, some (.long z), none, none]) (st' := [.int (nI 7), .ref a]) (h' := h) (fun _ => rfl) ?_
  refine rt_k (k := 1) (pc' := 9) (L' := [some (.ref a), some (.long x), none, some (.long y), none, some (.long z), none, none]) (st' := [.ref h.length, .ref a]) (h' := (h ++ [.inl (1, 7, .inr (.inl (fun _ => 0)))])) (fun _ => rfl) ?_
  refine rt_nm (fun h_1 e_2 => ?_)
  have g_3 : gr (fun z => z = a ∨ z = h.length) 1 (7) h h_1 := by rw [e_2]; exact gr_mo (gr_tr (gr_rf (h := h)) (gr_app (.inl (1, 7, .inr (.inl (fun _ => 0)))))) (fun _ q => q) (by first | exact Nat.le_refl _ | omega) (by first | exact Nat.le_refl _ | (simp only [ab_z]; omega))
  have n_4 : h_1.length = h.length + 1 := by rw [e_2]; simp
  have c_5 : h_1[a]? = some (.inr (8, [.null])) := by rw [e_2]; exact ha_old _ ca
  have c_6 : h_1[h.length]? = some (.inl (1, 7, .inr (.inl (fun _ => 0)))) := by rw [e_2]; exact ha_new
  refine rt_pf rfl c_5 ⟨rfl, (show 0 < 1 by decide), rfl⟩ ?_
  refine rt_nm (fun h_7 e_8 => ?_)
  have g_9 : gr (fun z => z = a ∨ z = h.length) 1 (7) h h_7 := by rw [e_8]; exact gr_mo (gr_tr g_3 (gr_fr (fr_set (e' := .inr (8, [.ref h.length])) c_5 (by rfl) (by first | decide | simp)))) (fun _ q => q) (by first | exact Nat.le_refl _ | omega) (by first | exact Nat.le_refl _ | (simp only [ab_z]; omega))
  have n_10 : h_7.length = h_1.length := by rw [e_8]; simp
  have c_11 : h_7[a]? = some (.inr (8, [.ref h.length])) := by rw [e_8]; exact hs_self c_5
  have c_12 : h_7[h.length]? = some (.inl (1, 7, .inr (.inl (fun _ => 0)))) := by rw [e_8]; exact hs_ne c_6 (hc_ne c_5 c_6 (by intro q; cases q))
  refine rt_k (k := 1) (pc' := 13) (L' := [some (.ref a), some (.long x), none, some (.long y), none, some (.long z), none, none]) (st' := [.ref a]) (h' := h_7) (fun _ => rfl) ?_
  refine rt_gf rfl c_11 rfl rfl ?_
  refine rt_k (k := 2) (pc' := 18) (L' := [some (.ref a), some (.long x), none, some (.long y), none, some (.long z), none, none]) (st' := [.long x, .int (nI 0), .ref h.length]) (h' := h_7) (fun _ => rfl) ?_
  refine rt_lasN rfl c_12 rfl (by omega) (by decide) ?_
  refine rt_nm (fun h_13 e_14 => ?_)
  have g_15 : gr (fun z => z = a ∨ z = h.length) 1 (7) h h_13 := by rw [e_14]; exact gr_mo (gr_tr g_9 (gr_fr (fr_set (e' := .inl (1, 7, .inr (.inl (vp_updL (fun _ => 0) 0 x)))) c_12 (by rfl) (by first | decide | simp)))) (fun _ q => q) (by first | exact Nat.le_refl _ | omega) (by first | exact Nat.le_refl _ | (simp only [ab_z]; omega))
  have n_16 : h_13.length = h_7.length := by rw [e_14]; simp
  have c_17 : h_13[a]? = some (.inr (8, [.ref h.length])) := by rw [e_14]; exact hs_ne c_11 (by omega)
  have c_18 : h_13[h.length]? = some (.inl (1, 7, .inr (.inl (vp_updL (fun _ => 0) 0 x)))) := by rw [e_14]; exact hs_self c_12
  refine rt_k (k := 1) (pc' := 20) (L' := [some (.ref a), some (.long x), none, some (.long y), none, some (.long z), none, none]) (st' := [.ref a]) (h' := h_13) (fun _ => rfl) ?_
  refine rt_gf rfl c_17 rfl rfl ?_
  refine rt_k (k := 2) (pc' := 25) (L' := [some (.ref a), some (.long x), none, some (.long y), none, some (.long z), none, none]) (st' := [.long y, .int (nI 1), .ref h.length]) (h' := h_13) (fun _ => rfl) ?_
  refine rt_lasN rfl c_18 rfl (by omega) (by decide) ?_
  refine rt_nm (fun h_19 e_20 => ?_)
  have g_21 : gr (fun z => z = a ∨ z = h.length) 1 (7) h h_19 := by rw [e_20]; exact gr_mo (gr_tr g_15 (gr_fr (fr_set (e' := .inl (1, 7, .inr (.inl (vp_updL (vp_updL (fun _ => 0) 0 x) 1 y)))) c_18 (by rfl) (by first | decide | simp)))) (fun _ q => q) (by first | exact Nat.le_refl _ | omega) (by first | exact Nat.le_refl _ | (simp only [ab_z]; omega))
  have n_22 : h_19.length = h_13.length := by rw [e_20]; simp
  have c_23 : h_19[a]? = some (.inr (8, [.ref h.length])) := by rw [e_20]; exact hs_ne c_17 (by omega)
  have c_24 : h_19[h.length]? = some (.inl (1, 7, .inr (.inl (vp_updL (vp_updL (fun _ => 0) 0 x) 1 y)))) := by rw [e_20]; exact hs_self c_18
  refine rt_k (k := 1) (pc' := 27) (L' := [some (.ref a), some (.long x), none, some (.long y), none, some (.long z), none, none]) (st' := [.ref a]) (h' := h_19) (fun _ => rfl) ?_
  refine rt_gf rfl c_23 rfl rfl ?_
  refine rt_k (k := 2) (pc' := 33) (L' := [some (.ref a), some (.long x), none, some (.long y), none, some (.long z), none, none]) (st' := [.long z, .int (nI 2), .ref h.length]) (h' := h_19) (fun _ => rfl) ?_
  refine rt_lasN rfl c_24 rfl (by omega) (by decide) ?_
  refine rt_nm (fun h_25 e_26 => ?_)
  have g_27 : gr (fun z => z = a ∨ z = h.length) 1 (7) h h_25 := by rw [e_26]; exact gr_mo (gr_tr g_21 (gr_fr (fr_set (e' := .inl (1, 7, .inr (.inl (vp_updL (vp_updL (vp_updL (fun _ => 0) 0 x) 1 y) 2 z)))) c_24 (by rfl) (by first | decide | simp)))) (fun _ q => q) (by first | exact Nat.le_refl _ | omega) (by first | exact Nat.le_refl _ | (simp only [ab_z]; omega))
  have n_28 : h_25.length = h_19.length := by rw [e_26]; simp
  have c_29 : h_25[a]? = some (.inr (8, [.ref h.length])) := by rw [e_26]; exact hs_ne c_23 (by omega)
  have c_30 : h_25[h.length]? = some (.inl (1, 7, .inr (.inl (vp_updL (vp_updL (vp_updL (fun _ => 0) 0 x) 1 y) 2 z)))) := by rw [e_26]; exact hs_self c_24
  refine rt_k (k := 1) (pc' := 35) (L' := [some (.ref a), some (.long x), none, some (.long y), none, some (.long z), none, none]) (st' := [.ref a]) (h' := h_25) (fun _ => rfl) ?_
  refine rt_gf rfl c_29 rfl rfl ?_
  refine rt_k (k := 2) (pc' := 42) (L' := [some (.ref a), some (.long x), none, some (.long y), none, some (.long z), none, none]) (st' := [.long (9223372036854775807), .int (nI 3), .ref h.length]) (h' := h_25) (fun _ => rfl) ?_
  refine rt_lasN rfl c_30 rfl (by omega) (by decide) ?_
  refine rt_nm (fun h_31 e_32 => ?_)
  have g_33 : gr (fun z => z = a ∨ z = h.length) 1 (7) h h_31 := by rw [e_32]; exact gr_mo (gr_tr g_27 (gr_fr (fr_set (e' := .inl (1, 7, .inr (.inl (vp_updL (vp_updL (vp_updL (vp_updL (fun _ => 0) 0 x) 1 y) 2 z) 3 (9223372036854775807))))) c_30 (by rfl) (by first | decide | simp)))) (fun _ q => q) (by first | exact Nat.le_refl _ | omega) (by first | exact Nat.le_refl _ | (simp only [ab_z]; omega))
  have n_34 : h_31.length = h_25.length := by rw [e_32]; simp
  have c_35 : h_31[a]? = some (.inr (8, [.ref h.length])) := by rw [e_32]; exact hs_ne c_29 (by omega)
  have c_36 : h_31[h.length]? = some (.inl (1, 7, .inr (.inl (vp_updL (vp_updL (vp_updL (vp_updL (fun _ => 0) 0 x) 1 y) 2 z) 3 (9223372036854775807))))) := by rw [e_32]; exact hs_self c_30
  refine rt_k (k := 4) (pc' := 49) (L' := [some (.ref a), some (.long x), none, some (.long y), none, some (.long z), none, some (.int (nI 4))]) (st' := [.ref a, .int (nI 4)]) (h' := h_31) (fun _ => rfl) ?_
  refine rt_gf rfl c_35 rfl rfl ?_
  refine rt_aln rfl c_36 (by decide) ?_
  refine rt_k (k := 2) (pc' := 57) (L' := [some (.ref a), some (.long x), none, some (.long y), none, some (.long z), none, some (.int (nI 4))]) (st' := [.ref a]) (h' := h_31) (fun _ => rfl) ?_
  refine rt_gf rfl c_35 rfl rfl ?_
  refine rt_k (k := 2) (pc' := 65) (L' := [some (.ref a), some (.long x), none, some (.long y), none, some (.long z), none, some (.int (nI 4))]) (st' := [.long (-1), .int (nI 4), .ref h.length]) (h' := h_31) (fun _ => rfl) ?_
  refine rt_lasN rfl c_36 rfl (by omega) (by decide) ?_
  refine rt_nm (fun h_37 e_38 => ?_)
  have g_39 : gr (fun z => z = a ∨ z = h.length) 1 (7) h h_37 := by rw [e_38]; exact gr_mo (gr_tr g_33 (gr_fr (fr_set (e' := .inl (1, 7, .inr (.inl (vp_updL (vp_updL (vp_updL (vp_updL (vp_updL (fun _ => 0) 0 x) 1 y) 2 z) 3 (9223372036854775807)) 4 (-1))))) c_36 (by rfl) (by first | decide | simp)))) (fun _ q => q) (by first | exact Nat.le_refl _ | omega) (by first | exact Nat.le_refl _ | (simp only [ab_z]; omega))
  have n_40 : h_37.length = h_31.length := by rw [e_38]; simp
  have c_41 : h_37[a]? = some (.inr (8, [.ref h.length])) := by rw [e_38]; exact hs_ne c_35 (by omega)
  have c_42 : h_37[h.length]? = some (.inl (1, 7, .inr (.inl (vp_updL (vp_updL (vp_updL (vp_updL (vp_updL (fun _ => 0) 0 x) 1 y) 2 z) 3 (9223372036854775807)) 4 (-1))))) := by rw [e_38]; exact hs_self c_36
  refine rt_inc (c := 1) rfl rfl ?_
  refine rt_k (k := 3) (pc' := 49) (L' := [some (.ref a), some (.long x), none, some (.long y), none, some (.long z), none, some (.int (nI 5))]) (st' := [.ref a, .int (nI 5)]) (h' := h_37) (fun _ => rfl) ?_
  refine rt_gf rfl c_41 rfl rfl ?_
  refine rt_aln rfl c_42 (by decide) ?_
  refine rt_k (k := 2) (pc' := 57) (L' := [some (.ref a), some (.long x), none, some (.long y), none, some (.long z), none, some (.int (nI 5))]) (st' := [.ref a]) (h' := h_37) (fun _ => rfl) ?_
  refine rt_gf rfl c_41 rfl rfl ?_
  refine rt_k (k := 2) (pc' := 65) (L' := [some (.ref a), some (.long x), none, some (.long y), none, some (.long z), none, some (.int (nI 5))]) (st' := [.long (-1), .int (nI 5), .ref h.length]) (h' := h_37) (fun _ => rfl) ?_
  refine rt_lasN rfl c_42 rfl (by omega) (by decide) ?_
  refine rt_nm (fun h_43 e_44 => ?_)
  have g_45 : gr (fun z => z = a ∨ z = h.length) 1 (7) h h_43 := by rw [e_44]; exact gr_mo (gr_tr g_39 (gr_fr (fr_set (e' := .inl (1, 7, .inr (.inl (vp_updL (vp_updL (vp_updL (vp_updL (vp_updL (vp_updL (fun _ => 0) 0 x) 1 y) 2 z) 3 (9223372036854775807)) 4 (-1)) 5 (-1))))) c_42 (by rfl) (by first | decide | simp)))) (fun _ q => q) (by first | exact Nat.le_refl _ | omega) (by first | exact Nat.le_refl _ | (simp only [ab_z]; omega))
  have n_46 : h_43.length = h_37.length := by rw [e_44]; simp
  have c_47 : h_43[a]? = some (.inr (8, [.ref h.length])) := by rw [e_44]; exact hs_ne c_41 (by omega)
  have c_48 : h_43[h.length]? = some (.inl (1, 7, .inr (.inl (vp_updL (vp_updL (vp_updL (vp_updL (vp_updL (vp_updL (fun _ => 0) 0 x) 1 y) 2 z) 3 (9223372036854775807)) 4 (-1)) 5 (-1))))) := by rw [e_44]; exact hs_self c_42
  refine rt_inc (c := 1) rfl rfl ?_
  refine rt_k (k := 3) (pc' := 49) (L' := [some (.ref a), some (.long x), none, some (.long y), none, some (.long z), none, some (.int (nI 6))]) (st' := [.ref a, .int (nI 6)]) (h' := h_43) (fun _ => rfl) ?_
  refine rt_gf rfl c_47 rfl rfl ?_
  refine rt_aln rfl c_48 (by decide) ?_
  refine rt_k (k := 2) (pc' := 57) (L' := [some (.ref a), some (.long x), none, some (.long y), none, some (.long z), none, some (.int (nI 6))]) (st' := [.ref a]) (h' := h_43) (fun _ => rfl) ?_
  refine rt_gf rfl c_47 rfl rfl ?_
  refine rt_k (k := 2) (pc' := 65) (L' := [some (.ref a), some (.long x), none, some (.long y), none, some (.long z), none, some (.int (nI 6))]) (st' := [.long (-1), .int (nI 6), .ref h.length]) (h' := h_43) (fun _ => rfl) ?_
  refine rt_lasN rfl c_48 rfl (by omega) (by decide) ?_
  refine rt_nm (fun h_49 e_50 => ?_)
  have g_51 : gr (fun z => z = a ∨ z = h.length) 1 (7) h h_49 := by rw [e_50]; exact gr_mo (gr_tr g_45 (gr_fr (fr_set (e' := .inl (1, 7, .inr (.inl (vp_updL (vp_updL (vp_updL (vp_updL (vp_updL (vp_updL (vp_updL (fun _ => 0) 0 x) 1 y) 2 z) 3 (9223372036854775807)) 4 (-1)) 5 (-1)) 6 (-1))))) c_48 (by rfl) (by first | decide | simp)))) (fun _ q => q) (by first | exact Nat.le_refl _ | omega) (by first | exact Nat.le_refl _ | (simp only [ab_z]; omega))
  have n_52 : h_49.length = h_43.length := by rw [e_50]; simp
  have c_53 : h_49[a]? = some (.inr (8, [.ref h.length])) := by rw [e_50]; exact hs_ne c_47 (by omega)
  have c_54 : h_49[h.length]? = some (.inl (1, 7, .inr (.inl (vp_updL (vp_updL (vp_updL (vp_updL (vp_updL (vp_updL (vp_updL (fun _ => 0) 0 x) 1 y) 2 z) 3 (9223372036854775807)) 4 (-1)) 5 (-1)) 6 (-1))))) := by rw [e_50]; exact hs_self c_48
  refine rt_inc (c := 1) rfl rfl ?_
  refine rt_k (k := 3) (pc' := 49) (L' := [some (.ref a), some (.long x), none, some (.long y), none, some (.long z), none, some (.int (nI 7))]) (st' := [.ref a, .int (nI 7)]) (h' := h_49) (fun _ => rfl) ?_
  refine rt_gf rfl c_53 rfl rfl ?_
  refine rt_aln rfl c_54 (by decide) ?_
  refine rt_k (k := 1) (pc' := 72) (L' := [some (.ref a), some (.long x), none, some (.long y), none, some (.long z), none, some (.int (nI 7))]) (st' := []) (h' := h_49) (fun _ => rfl) ?_
  have g0 := g_51
  refine rt_r (v := none) rfl rfl ⟨rfl, ⟨g0.1, g0.2.1, g0.2.2.1, fun k hk hn => g0.2.2.2 k hk (fun w => w.elim hn (fun w => by omega))⟩, _, c_53, c_54, rfl, rfl, rfl, rfl, rfl, rfl, rfl⟩
/-- a version's cells while it is made -/
def vM (h : List va_E) (a k : Nat) (v : kV) : Prop := ∃ g : Nat → Int64, h[a]? = some (.inr (8, [.ref k])) ∧ h[k]? = some (.inl (1, 7, .inr (.inl g))) ∧ ∀ i, i < 7 → g i = vk v i
theorem vM.z {a k : Nat} {v : kV} (C : vM h a k v) (ha : zz a) (hk : zz k) : zV h a v := by
  obtain ⟨g, c1, c2, c3⟩ := C
  exact ⟨k, g, ⟨ha, c1⟩, ⟨hk, c2⟩, c3⟩
theorem vM.fr {h' : List va_E} {A : Nat → Prop} {a k : Nat} {v : kV} (C : vM h a k v) (F : fr_ A h h') (ha : ¬ A a) (hk : ¬ A k) : vM h' a k v := by
  obtain ⟨g, c1, c2, c3⟩ := C
  exact ⟨g, fr_at F ha c1, fr_at F hk c2, c3⟩
theorem lt7 {P : Nat → Prop} (h0 : P 0) (h1 : P 1) (h2 : P 2) (h3 : P 3) (h4 : P 4) (h5 : P 5) (h6 : P 6) : ∀ i, i < 7 → P i := fun i hi => by
  rcases Nat.lt_or_ge i 1 with q | q
  · rw [show i = 0 by omega]; exact h0
  rcases Nat.lt_or_ge i 2 with q | q
  · rw [show i = 1 by omega]; exact h1
  rcases Nat.lt_or_ge i 3 with q | q
  · rw [show i = 2 by omega]; exact h2
  rcases Nat.lt_or_ge i 4 with q | q
  · rw [show i = 3 by omega]; exact h3
  rcases Nat.lt_or_ge i 5 with q | q
  · rw [show i = 4 by omega]; exact h4
  rcases Nat.lt_or_ge i 6 with q | q
  · rw [show i = 5 by omega]; exact h5
  · rw [show i = 6 by omega]; exact h6
theorem ver_mk {a x y z : Nat} (ca : h[a]? = some (.inr (8, [.null]))) : rt_ X d 37 0 [some (.ref a), some (.long (lI x)), none, some (.long (lI y)), none, some (.long (lI z)), none, none] [] h (fun v h' => v = none ∧ gr (fun z => z = a) 1 7 h h' ∧ vM h' a h.length ((x, y, z), [])) := by
  refine rt_w (ver_new ca) ?_
  rintro v h' ⟨r1, r2, g, c1, c2, e0, e1, e2, e3, e4, e5, e6⟩
  exact ⟨r1, r2, g, c1, c2, lt7 e0 e1 e2 e3 e4 e5 e6⟩
theorem vk_sn {n3 : Nat × Nat × Nat} {ms : List kW} {m : kW} {j : Nat} : vk (n3, ms ++ [m]) j = if j = 3 + ms.length then mkI m else vk (n3, ms) j := by
  match j with
  | 0 => rw [if_neg (by omega)]; rfl
  | 1 => rw [if_neg (by omega)]; rfl
  | 2 => rw [if_neg (by omega)]; rfl
  | j + 3 =>
    show (match (ms ++ [m])[j]? with | some m => mkI m | none => if j = 0 then 9223372036854775807 else -1) = _
    by_cases q : j < ms.length
    · rw [List.getElem?_append_left q, if_neg (show ¬ j + 3 = 3 + ms.length by omega)]; rfl
    · by_cases q2 : j = ms.length
      · subst q2
        rw [if_pos (show ms.length + 3 = 3 + ms.length by omega), List.getElem?_append_right (Nat.le_refl _), Nat.sub_self]; rfl
      · rw [if_neg (show ¬ j + 3 = 3 + ms.length by omega), List.getElem?_eq_none (by rw [List.length_append]; simp; omega)]
        show _ = (match ms[j]? with | some m => mkI m | none => if j = 0 then 9223372036854775807 else -1)
        rw [List.getElem?_eq_none (by omega)]
theorem ver_set {a k : Nat} {n3 : Nat × Nat × Nat} {ms : List kW} {m : kW} (C : vM h a k (n3, ms)) (hk : ¬ a = k) (hm : ms.length < 4) : rt_ X d 40 0 [some (.ref a), some (.int (nI ms.length)), some (.long (mkI m)), none] [] h (fun v h' => v = none ∧ fr_ (fun z => z = k) h h' ∧ vM h' a k (n3, ms ++ [m])) := by
  obtain ⟨g, c1, c2, c3⟩ := C
  refine rt_k (k := 1) (pc' := 1) (L' := [some (.ref a), some (.int (nI ms.length)), some (.long (mkI m)), none]) (st' := [.int (nI ms.length)]) (h' := h) (fun _ => rfl) ?_
  refine rt_zlt rfl (by omega) ?_
  refine rt_k (k := 2) (pc' := 6) (L' := [some (.ref a), some (.int (nI ms.length)), some (.long (mkI m)), none]) (st' := [.int (nI 4), .int (nI ms.length)]) (h' := h) (fun _ => rfl) ?_
  refine rt_ige rfl (by omega) (by decide) (fun z => absurd z (by omega)) (fun _ => ?_)
  refine rt_k (k := 1) (pc' := 10) (L' := [some (.ref a), some (.int (nI ms.length)), some (.long (mkI m)), none]) (st' := [.ref a]) (h' := h) (fun _ => rfl) ?_
  refine rt_gf rfl c1 rfl rfl ?_
  refine rt_k (k := 2) (pc' := 15) (L' := [some (.ref a), some (.int (nI ms.length)), some (.long (mkI m)), none]) (st' := [.int (nI ms.length), .int (nI 3), .ref k]) (h' := h) (fun _ => rfl) ?_
  refine rt_add rfl ?_
  refine rt_k (k := 1) (pc' := 17) (L' := [some (.ref a), some (.int (nI ms.length)), some (.long (mkI m)), none]) (st' := [.long (mkI m), .int (nI (3 + ms.length)), .ref k]) (h' := h) (fun _ => rfl) ?_
  refine rt_lasN rfl c2 rfl (by omega) (by decide) ?_
  have f_55 : fr_ (fun z => z = k) h (h.set k (.inl (1, 7, .inr (.inl (vp_updL g (3 + ms.length) (mkI m)))))) := fr_set (e' := .inl (1, 7, .inr (.inl (vp_updL g (3 + ms.length) (mkI m))))) c2 (by rfl) (by first | decide | simp)
  have c_56 := hs_ne (a := k) (e' := .inl (1, 7, .inr (.inl (vp_updL g (3 + ms.length) (mkI m))))) c1 (hc_ne c2 c1 (by intro q; cases q))
  have c_57 := hs_self (e' := .inl (1, 7, .inr (.inl (vp_updL g (3 + ms.length) (mkI m))))) c2
  refine rt_r (v := none) rfl rfl ⟨rfl, f_55, _, c_56, c_57, fun i hi => ?_⟩
  rw [vk_sn]
  unfold vp_updL
  by_cases q : i = 3 + ms.length
  · rw [if_pos q, if_pos q]
  · rw [if_neg q, if_neg q]; exact c3 i hi
def mR : Nat → Nat → List kW → kW → Option (List kW)
  | _, _, ms, [] => some ms
  | 0, _, _, _ :: _ => none
  | n + 1, i, ms, c :: t => if c = (if i = 0 then 45 else 46) ∧ okM (t.takeWhile mkb) = true then mR n (i + 1) (ms ++ [t.takeWhile mkb]) (t.dropWhile mkb) else none
theorem mR_nil (n i : Nat) (ms : List kW) : mR n i ms [] = some ms := by cases n <;> rfl
theorem mR_pM : ∀ (n i : Nat) (ms : List kW) (r : kW), 1 ≤ i → mR n i ms r = match r with | [] => some ms | c :: t => if c = 46 then (pMks n t).map (fun z => ms ++ z) else none
  | n, i, ms, [], _ => mR_nil n i ms
  | 0, i, ms, c :: t, _ => by
    rw [mR]
    dsimp only
    by_cases q : c = 46
    · rw [if_pos q]; rfl
    · rw [if_neg q]
  | n + 1, i, ms, c :: t, hi => by
    rw [mR, if_neg (show ¬ i = 0 by omega)]
    dsimp only
    by_cases q : c = 46
    · by_cases w : okM (t.takeWhile mkb) = true
      · rw [if_pos ⟨q, w⟩, mR_pM n (i + 1) _ _ (by omega), if_pos q, pMks, if_pos w]
        cases t.dropWhile mkb with
        | nil => rfl
        | cons c' t' =>
          dsimp only
          by_cases z : c' = 46
          · rw [if_pos z, if_pos z]
            cases pMks n t' with
            | none => rfl
            | some y => simp
          · rw [if_neg z, if_neg z]; rfl
      · rw [if_neg (fun y => w y.2), if_pos q, pMks, if_neg w]; rfl
    · rw [if_neg (fun y => q y.1), if_neg q]
theorem pVer_mR (w : kW) : pVer w = (pV3 w).bind fun a => (mR 4 0 [] a.2).map (fun m => (a.1, m)) := by
  unfold pVer
  congr 1
  funext a
  cases a.2 with
  | nil => rw [mR_nil]; rfl
  | cons c t =>
    rw [mR]
    dsimp only
    by_cases q : c = 45
    · by_cases y : okM (t.takeWhile mkb) = true
      · rw [if_pos q, if_pos ⟨by rw [if_pos rfl]; exact q, y⟩, mR_pM 3 1 _ _ (Nat.le_refl _), pMks, if_pos y]
        cases t.dropWhile mkb with
        | nil => rfl
        | cons c' t' =>
          dsimp only
          by_cases z : c' = 46
          · rw [if_pos z, if_pos z]
            cases pMks 3 t' with
            | none => rfl
            | some y => rfl
          · rw [if_neg z, if_neg z]
      · rw [if_pos q, if_neg (fun z => y z.2), pMks, if_neg y]
    · rw [if_neg q, if_neg (fun z => q (by have := z.1; rwa [if_pos rfl] at this))]; rfl
theorem pkw_lt {w : kW} (h : ∀ c ∈ w, c < 128) : ∀ n, pk w (n + 1) < 128 * 256 ^ n
  | 0 => by
    have : w.getD 0 0 < 128 := by
      cases w with
      | nil => decide
      | cons c t => exact h c List.mem_cons_self
    rw [pk, pk]; omega
  | n + 1 => by
    have ih := pkw_lt h n
    have hc : w.getD (n + 1) 0 < 256 := by
      rw [List.getD_eq_getElem?_getD]
      by_cases q : n + 1 < w.length
      · rw [List.getElem?_eq_getElem q]
        have := h _ (List.getElem_mem q)
        show w[n + 1] < 256
        omega
      · rw [List.getElem?_eq_none (by omega)]; decide
    rw [pk, Nat.pow_succ]
    omega
theorem lI_nn {n : Nat} (h : n < 9223372036854775808) : ¬ lI n < 0 := by
  intro q
  have := Int64.lt_iff_toInt_lt.mp q
  unfold lI at this
  rw [Int64.toInt_ofNat_of_lt h, show (0 : Int64).toInt = 0 by decide] at this
  omega
theorem mkI_nn {w : kW} (h : ∀ c ∈ w, mkb c = true) (hl : w.length ≤ 8) : ¬ mkI w < 0 := by
  unfold mkI
  by_cases q : w.all dg = true
  · rw [if_pos q]
    have := dv_b (List.all_eq_true.mp q) hl
    exact lI_nn (by omega)
  · rw [if_neg q]
    have := pkw_lt (w := w) (fun c hc => by have := mkb_iff.mp (h c hc); omega) 7
    exact lI_nn (by omega)
end VN

