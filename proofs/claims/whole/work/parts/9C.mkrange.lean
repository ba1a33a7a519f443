/-! RANGES made and read. -/
section RR
variable {X : Nat × (Nat → Int32)} {d : Nat} {h : List va_E} {Q : Option Value → List va_E → Prop} {T : List Nat} {f b p : Nat} {ws : List kW}
/-- a range while it is made: done choices R, tests q of the one that is open; tests known in a heap of their own -/
def gMr (h : List va_E) (a tt sz : Nat) (R : kR) (q : List kT) : Prop := ∃ (F : Nat → Option Nat) (S : Nat → Int32), h[a]? = some (.inr (10, [.ref tt, .ref sz, .int (nI (R.length + 1))])) ∧ h[tt]? = some (.inl (8, 16, .inr (.inr (.inr (.inr F))))) ∧ h[sz]? = some (.inl (2, 4, .inl S)) ∧ R.length < 4 ∧ q.length ≤ 4 ∧ S R.length = nI q.length ∧ (∀ c, R.length < c → c < 4 → S c = nI 0) ∧ zRf h F S R ∧ ∀ (i : Nat) t, q[i]? = some t → ∃ ta, F (R.length * 4 + i) = some ta ∧ zT h ta t
theorem rng_mk {a : Nat} (ca : h[a]? = some (.inr (10, [.null, .null, .int (nI 0)]))) : rt_ X d 44 0 [some (.ref a)] [] h (fun v h' => v = none ∧ gr (fun z => z = a) 2 20 h h' ∧ gMr h' a h.length (h.length + 1) [] []) := by
  have hl := hc_lt ca
  refine rt_k (k := 4) (pc' := 7) (L' := [some (.ref a)]) (st' := [.int (nI 16), .ref a]) (h' := h) (fun _ => rfl) ?_
  refine rt_k (k := 1) (pc' := 10) (L' := [some (.ref a)]) (st' := [.ref h.length, .ref a]) (h' := (h ++ [.inl (8, 16, .inr (.inr (.inr (.inr (fun _ => none)))))])) (fun _ => rfl) ?_
  refine rt_nm (fun h_1 e_2 => ?_)
  have g_3 : gr (fun z => z = a) 1 (16) h h_1 := by rw [e_2]; exact gr_mo (gr_tr (gr_rf (h := h)) (gr_app (.inl (8, 16, .inr (.inr (.inr (.inr (fun _ => none)))))))) (fun _ q => q) (by first | exact Nat.le_refl _ | omega) (by first | exact Nat.le_refl _ | (simp only [ab_z]; omega))
  have n_4 : h_1.length = h.length + 1 := by rw [e_2]; simp
  have c_5 : h_1[a]? = some (.inr (10, [.null, .null, .int (nI 0)])) := by rw [e_2]; exact ha_old _ ca
  have c_6 : h_1[h.length]? = some (.inl (8, 16, .inr (.inr (.inr (.inr (fun _ => none)))))) := by rw [e_2]; exact ha_new
  refine rt_pf rfl c_5 ⟨rfl, (show 0 < 3 by decide), rfl⟩ ?_
  refine rt_nm (fun h_7 e_8 => ?_)
  have g_9 : gr (fun z => z = a) 1 (16) h h_7 := by rw [e_8]; exact gr_mo (gr_tr g_3 (gr_fr (fr_set (e' := .inr (10, [.ref h.length, .null, .int (nI 0)])) c_5 (by rfl) (by first | decide | simp)))) (fun _ q => q) (by first | exact Nat.le_refl _ | omega) (by first | exact Nat.le_refl _ | (simp only [ab_z]; omega))
  have n_10 : h_7.length = h_1.length := by rw [e_8]; simp
  have c_11 : h_7[a]? = some (.inr (10, [.ref h.length, .null, .int (nI 0)])) := by rw [e_8]; exact hs_self c_5
  have c_12 : h_7[h.length]? = some (.inl (8, 16, .inr (.inr (.inr (.inr (fun _ => none)))))) := by rw [e_8]; exact hs_ne c_6 (hc_ne c_5 c_6 (by intro q; cases q))
  refine rt_k (k := 1) (pc' := 14) (L' := [some (.ref a)]) (st' := [.ref a]) (h' := h_7) (fun _ => rfl) ?_
  refine rt_k (k := 1) (pc' := 15) (L' := [some (.ref a)]) (st' := [.int (nI 4), .ref a]) (h' := h_7) (fun _ => rfl) ?_
  refine rt_k (k := 1) (pc' := 17) (L' := [some (.ref a)]) (st' := [.ref h_7.length, .ref a]) (h' := (h_7 ++ [.inl (2, 4, .inl (fun _ => 0))])) (fun _ => rfl) ?_
  refine rt_nm (fun h_13 e_14 => ?_)
  have g_15 : gr (fun z => z = a) 2 (20) h h_13 := by rw [e_14]; exact gr_mo (gr_tr g_9 (gr_app (.inl (2, 4, .inl (fun _ => 0))))) (fun _ q => q) (by first | exact Nat.le_refl _ | omega) (by first | exact Nat.le_refl _ | (simp only [ab_z]; omega))
  have n_16 : h_13.length = h_7.length + 1 := by rw [e_14]; simp
  have c_17 : h_13[a]? = some (.inr (10, [.ref h.length, .null, .int (nI 0)])) := by rw [e_14]; exact ha_old _ c_11
  have c_18 : h_13[h.length]? = some (.inl (8, 16, .inr (.inr (.inr (.inr (fun _ => none)))))) := by rw [e_14]; exact ha_old _ c_12
  have c_19 : h_13[h_7.length]? = some (.inl (2, 4, .inl (fun _ => 0))) := by rw [e_14]; exact ha_new
  refine rt_pf rfl c_17 ⟨rfl, (show 1 < 3 by decide), rfl⟩ ?_
  refine rt_nm (fun h_20 e_21 => ?_)
  have g_22 : gr (fun z => z = a) 2 (20) h h_20 := by rw [e_21]; exact gr_mo (gr_tr g_15 (gr_fr (fr_set (e' := .inr (10, [.ref h.length, .ref h_7.length, .int (nI 0)])) c_17 (by rfl) (by first | decide | simp)))) (fun _ q => q) (by first | exact Nat.le_refl _ | omega) (by first | exact Nat.le_refl _ | (simp only [ab_z]; omega))
  have n_23 : h_20.length = h_13.length := by rw [e_21]; simp
  have c_24 : h_20[a]? = some (.inr (10, [.ref h.length, .ref h_7.length, .int (nI 0)])) := by rw [e_21]; exact hs_self c_17
  have c_25 : h_20[h.length]? = some (.inl (8, 16, .inr (.inr (.inr (.inr (fun _ => none)))))) := by rw [e_21]; exact hs_ne c_18 (hc_ne c_17 c_18 (by intro q; cases q))
  have c_26 : h_20[h_7.length]? = some (.inl (2, 4, .inl (fun _ => 0))) := by rw [e_21]; exact hs_ne c_19 (hc_ne c_17 c_19 (by intro q; cases q))
  refine rt_k (k := 2) (pc' := 22) (L' := [some (.ref a)]) (st' := [.int (nI 1), .ref a]) (h' := h_20) (fun _ => rfl) ?_
  refine rt_pf rfl c_24 ⟨rfl, (show 2 < 3 by decide), rfl⟩ ?_
  refine rt_nm (fun h_27 e_28 => ?_)
  have g_29 : gr (fun z => z = a) 2 (20) h h_27 := by rw [e_28]; exact gr_mo (gr_tr g_22 (gr_fr (fr_set (e' := .inr (10, [.ref h.length, .ref h_7.length, .int (nI 1)])) c_24 (by rfl) (by first | decide | simp)))) (fun _ q => q) (by first | exact Nat.le_refl _ | omega) (by first | exact Nat.le_refl _ | (simp only [ab_z]; omega))
  have n_30 : h_27.length = h_20.length := by rw [e_28]; simp
  have c_31 : h_27[a]? = some (.inr (10, [.ref h.length, .ref h_7.length, .int (nI 1)])) := by rw [e_28]; exact hs_self c_24
  have c_32 : h_27[h.length]? = some (.inl (8, 16, .inr (.inr (.inr (.inr (fun _ => none)))))) := by rw [e_28]; exact hs_ne c_25 (hc_ne c_24 c_25 (by intro q; cases q))
  have c_33 : h_27[h_7.length]? = some (.inl (2, 4, .inl (fun _ => 0))) := by rw [e_28]; exact hs_ne c_26 (hc_ne c_24 c_26 (by intro q; cases q))
  have e1 : h_7.length = h.length + 1 := by omega
  refine rt_r (v := none) rfl rfl ⟨rfl, g_29, fun _ => none, fun _ => 0, ?_, c_32, ?_, by decide, by decide, rfl, fun c _ _ => rfl, fun c q hq => (by cases hq), fun i t ht => (by cases ht)⟩
  · have := c_31
    rw [e1] at this
    exact this
  · rw [← e1]; exact c_33
/-- cells of tests and of what they are made of -/
def okT (e : va_E) : Prop := match e with
  | .inr (ci, _) => ci = 8 ∨ ci = 11
  | .inl (t, n, _) => t = 1 ∧ n = 7
def et_ (h h' : List va_E) : Prop := ∀ a e, okT e → z_ h a e → z_ h' a e
theorem zV.et {h h' : List va_E} {a : Nat} {v : kV} (E : et_ h h') (C : zV h a v) : zV h' a v := by
  obtain ⟨k, f, c1, c2, c3⟩ := C
  exact ⟨k, f, E _ _ (Or.inl rfl) c1, E _ _ ⟨rfl, rfl⟩ c2, c3⟩
theorem zO.et {h h' : List va_E} {a : Option Nat} {v : Option kV} (E : et_ h h') (C : zO h a v) : zO h' a v := by
  cases a <;> cases v
  · exact C
  · exact C
  · exact C
  · exact zV.et E C
theorem zT.et {h h' : List va_E} {a : Nat} {t : kT} (E : et_ h h') (C : zT h a t) : zT h' a t := by
  obtain ⟨la, ha, c1, c2, c3⟩ := C
  exact ⟨la, ha, E _ _ (Or.inr rfl) c1, c2.et E, c3.et E⟩
theorem zRf.et {h h' : List va_E} {F : Nat → Option Nat} {S : Nat → Int32} {R : kR} (E : et_ h h') (C : zRf h F S R) : zRf h' F S R := fun c q hq => by
  obtain ⟨a, b, g⟩ := C c q hq
  exact ⟨a, b, fun i t ht => by obtain ⟨ta, u, w⟩ := g i t ht; exact ⟨ta, u, w.et E⟩⟩
theorem et_tr {h h1 h2 : List va_E} (a : et_ h h1) (b : et_ h1 h2) : et_ h h2 := fun k e o q => b k e o (a k e o q)
theorem et_set {h : List va_E} {a : Nat} {e e' : va_E} (c : h[a]? = some e) (hn : ¬ okT e) : et_ h (h.set a e') := fun k x o q => by
  have hk : a ≠ k := fun z => by subst z; rw [q.2] at c; cases c; exact hn o
  exact ⟨q.1, by rw [List.getElem?_set_ne hk]; exact q.2⟩
theorem rng_add {a tt sz ta : Nat} {R : kR} {q : List kT} {t : kT} (C : gMr h a tt sz R q) (ht : zT h ta t) : rt_ X d 49 0 [some (.ref a), some (.ref ta), none] [] h (fun v h' => (q.length = 4 ∧ v = some (.int 0) ∧ h' = h) ∨ (q.length < 4 ∧ v = some (.int 1) ∧ fr_ (fun z => z = tt ∨ z = sz) h h' ∧ et_ h h' ∧ gMr h' a tt sz R (q ++ [t]))) := by
  obtain ⟨F, S, c1, c2, c3, hR, hq, hS, hS0, HR, Hq⟩ := id C
  obtain ⟨la, ha, ⟨-, ct⟩, -⟩ := id ht
  have e0 : R.length + 1 - 1 = R.length := by omega
  refine rt_k (k := 1) (pc' := 1) (L' := [some (.ref a), some (.ref ta), none]) (st' := [.ref a]) (h' := h) (fun _ => rfl) ?_
  refine rt_gf rfl c1 rfl rfl ?_
  refine rt_k (k := 1) (pc' := 5) (L' := [some (.ref a), some (.ref ta), none]) (st' := [.int (nI 1), .int (nI (R.length + 1))]) (h' := h) (fun _ => rfl) ?_
  refine rt_sub rfl (by omega) ?_
  rw [e0]
  refine rt_k (k := 2) (pc' := 8) (L' := [some (.ref a), some (.ref ta), some (.int (nI R.length))]) (st' := [.ref a]) (h' := h) (fun _ => rfl) ?_
  refine rt_gf rfl c1 rfl rfl ?_
  refine rt_k (k := 1) (pc' := 12) (L' := [some (.ref a), some (.ref ta), some (.int (nI R.length))]) (st' := [.int (nI R.length), .ref sz]) (h' := h) (fun _ => rfl) ?_
  refine rt_ialN rfl c3 rfl (by omega) (by decide) hS ?_
  refine rt_k (k := 1) (pc' := 14) (L' := [some (.ref a), some (.ref ta), some (.int (nI R.length))]) (st' := [.int (nI 4), .int (nI q.length)]) (h' := h) (fun _ => rfl) ?_
  refine rt_ine rfl (by omega) (by decide) (fun z => ?_) (fun z => ?_)
  rotate_left
  ·
    refine rt_k (k := 1) (pc' := 18) (L' := [some (.ref a), some (.ref ta), some (.int (nI R.length))]) (st' := [.int (nI 0)]) (h' := h) (fun _ => rfl) ?_
    exact rt_r (v := some (.int (nI 0))) rfl rfl (Or.inl ⟨z, rfl, rfl⟩)
  refine rt_k (k := 1) (pc' := 20) (L' := [some (.ref a), some (.ref ta), some (.int (nI R.length))]) (st' := [.ref a]) (h' := h) (fun _ => rfl) ?_
  refine rt_gf rfl c1 rfl rfl ?_
  refine rt_k (k := 2) (pc' := 25) (L' := [some (.ref a), some (.ref ta), some (.int (nI R.length))]) (st' := [.int (nI 4), .int (nI R.length), .ref tt]) (h' := h) (fun _ => rfl) ?_
  refine rt_mul rfl ?_
  refine rt_k (k := 1) (pc' := 27) (L' := [some (.ref a), some (.ref ta), some (.int (nI R.length))]) (st' := [.ref a, .int (nI (R.length * 4)), .ref tt]) (h' := h) (fun _ => rfl) ?_
  refine rt_gf rfl c1 rfl rfl ?_
  refine rt_k (k := 1) (pc' := 31) (L' := [some (.ref a), some (.ref ta), some (.int (nI R.length))]) (st' := [.int (nI R.length), .ref sz, .int (nI (R.length * 4)), .ref tt]) (h' := h) (fun _ => rfl) ?_
  refine rt_ialN rfl c3 rfl (by omega) (by decide) hS ?_
  refine rt_add rfl ?_
  refine rt_k (k := 1) (pc' := 34) (L' := [some (.ref a), some (.ref ta), some (.int (nI R.length))]) (st' := [.ref ta, .int (nI ((R.length * 4) + q.length)), .ref tt]) (h' := h) (fun _ => rfl) ?_
  refine rt_aasN rfl c2 ct ⟨rfl, rfl⟩ (by omega) (by decide) ?_
  refine rt_nm (fun h_34 e_35 => ?_)
  have f_36 : fr_ (fun z => z = tt ∨ z = sz) h h_34 := by rw [e_35]; exact fr_set (e' := .inl (8, 16, .inr (.inr (.inr (.inr (va_up F ((R.length * 4) + q.length) (some ta))))))) c2 (by rfl) (by first | decide | simp)
  have t_37 : et_ h h_34 := by rw [e_35]; exact et_set (e' := .inl (8, 16, .inr (.inr (.inr (.inr (va_up F ((R.length * 4) + q.length) (some ta))))))) c2 (by simp [okT] <;> omega)
  have n_38 : h_34.length = h.length := by rw [e_35]; simp
  have c_39 : h_34[a]? = some (.inr (10, [.ref tt, .ref sz, .int (nI (R.length + 1))])) := by rw [e_35]; exact hs_ne c1 (hc_ne c2 c1 (by intro q; cases q))
  have c_40 : h_34[tt]? = some (.inl (8, 16, .inr (.inr (.inr (.inr (va_up F ((R.length * 4) + q.length) (some ta))))))) := by rw [e_35]; exact hs_self c2
  have c_41 : h_34[sz]? = some (.inl (2, 4, .inl S)) := by rw [e_35]; exact hs_ne c3 (hc_ne c2 c3 (by intro q; cases q))
  have c_42 : h_34[ta]? = some (.inr (11, [ab_w la, .int (bI (tsO t).2.1), ab_w ha, .int (bI (tsO t).2.2.2)])) := by rw [e_35]; exact hs_ne ct (hc_ne c2 ct (by intro q; cases q))
  refine rt_k (k := 1) (pc' := 36) (L' := [some (.ref a), some (.ref ta), some (.int (nI R.length))]) (st' := [.ref a]) (h' := h_34) (fun _ => rfl) ?_
  refine rt_gf rfl c_39 rfl rfl ?_
  refine rt_k (k := 2) (pc' := 41) (L' := [some (.ref a), some (.ref ta), some (.int (nI R.length))]) (st' := [.int (nI R.length), .ref sz, .int (nI R.length), .ref sz]) (h' := h_34) (fun _ => rfl) ?_
  refine rt_ialN rfl c_41 rfl (by omega) (by decide) hS ?_
  refine rt_k (k := 1) (pc' := 43) (L' := [some (.ref a), some (.ref ta), some (.int (nI R.length))]) (st' := [.int (nI 1), .int (nI q.length), .int (nI R.length), .ref sz]) (h' := h_34) (fun _ => rfl) ?_
  refine rt_add rfl ?_
  refine rt_iasN rfl c_41 rfl (by omega) (by decide) ?_
  refine rt_nm (fun h_43 e_44 => ?_)
  have f_45 : fr_ (fun z => z = tt ∨ z = sz) h h_43 := by rw [e_44]; exact fr_tr f_36 (fr_set (e' := .inl (2, 4, .inl (upd S R.length (nI (q.length + 1))))) c_41 (by rfl) (by first | decide | simp))
  have t_46 : et_ h h_43 := by rw [e_44]; exact et_tr t_37 (et_set (e' := .inl (2, 4, .inl (upd S R.length (nI (q.length + 1))))) c_41 (by simp [okT] <;> omega))
  have n_47 : h_43.length = h_34.length := by rw [e_44]; simp
  have c_48 : h_43[a]? = some (.inr (10, [.ref tt, .ref sz, .int (nI (R.length + 1))])) := by rw [e_44]; exact hs_ne c_39 (hc_ne c_41 c_39 (by intro q; cases q))
  have c_49 : h_43[tt]? = some (.inl (8, 16, .inr (.inr (.inr (.inr (va_up F ((R.length * 4) + q.length) (some ta))))))) := by rw [e_44]; exact hs_ne c_40 (hc_ne c_41 c_40 (by intro q; cases q))
  have c_50 : h_43[sz]? = some (.inl (2, 4, .inl (upd S R.length (nI (q.length + 1))))) := by rw [e_44]; exact hs_self c_41
  have c_51 : h_43[ta]? = some (.inr (11, [ab_w la, .int (bI (tsO t).2.1), ab_w ha, .int (bI (tsO t).2.2.2)])) := by rw [e_44]; exact hs_ne c_42 (hc_ne c_41 c_42 (by intro q; cases q))
  refine rt_k (k := 1) (pc' := 46) (L' := [some (.ref a), some (.ref ta), some (.int (nI R.length))]) (st' := [.int (nI 1)]) (h' := h_43) (fun _ => rfl) ?_
  have hlt : q.length < 4 := by omega
  refine rt_r (v := some (.int (nI 1))) rfl rfl (Or.inr ⟨hlt, rfl, f_45, t_46, _, _, c_48, c_49, c_50, hR, ?_, ?_, fun c h1 h2 => ?_, fun c q' hq' => ?_, fun i t' ht' => ?_⟩)
  · rw [List.length_append]; exact hlt
  · unfold upd; rw [if_pos rfl, List.length_append]; rfl
  · unfold upd; rw [if_neg (by omega)]; exact hS0 c h1 h2
  · have hc := gt_lt hq'
    obtain ⟨u1, u2, u3⟩ := HR c q' hq'
    unfold upd
    refine ⟨by rw [if_neg (by omega)]; exact u1, u2, fun i t' ht' => ?_⟩
    obtain ⟨tb, v1, v2⟩ := u3 i t' ht'
    have := gt_lt ht'
    exact ⟨tb, by rw [va_up_ne _ _ (by omega)]; exact v1, v2.et t_46⟩
  · rcases gt_snoc ht' with w | ⟨w1, w2⟩
    · have := gt_lt w
      obtain ⟨tb, v1, v2⟩ := Hq i t' w
      exact ⟨tb, by rw [va_up_ne _ _ (by omega)]; exact v1, v2.et t_46⟩
    · subst w1; subst w2
      exact ⟨ta, va_up_self _ _ _, ht.et t_46⟩
theorem rng_begin {a tt sz : Nat} {R : kR} {q : List kT} (C : gMr h a tt sz R q) : rt_ X d 50 0 [some (.ref a)] [] h (fun v h' => (R.length + 1 = 4 ∧ v = some (.int 0) ∧ h' = h) ∨ (R.length + 1 < 4 ∧ v = some (.int 1) ∧ fr_ (fun z => z = a) h h' ∧ et_ h h' ∧ gMr h' a tt sz (R ++ [q]) [])) := by
  obtain ⟨F, S, c1, c2, c3, hR, hq, hS, hS0, HR, Hq⟩ := id C
  refine rt_k (k := 1) (pc' := 1) (L' := [some (.ref a)]) (st' := [.ref a]) (h' := h) (fun _ => rfl) ?_
  refine rt_gf rfl c1 rfl rfl ?_
  refine rt_k (k := 1) (pc' := 5) (L' := [some (.ref a)]) (st' := [.int (nI 4), .int (nI (R.length + 1))]) (h' := h) (fun _ => rfl) ?_
  refine rt_ine rfl (by omega) (by decide) (fun z => ?_) (fun z => ?_)
  rotate_left
  ·
    refine rt_k (k := 1) (pc' := 9) (L' := [some (.ref a)]) (st' := [.int (nI 0)]) (h' := h) (fun _ => rfl) ?_
    exact rt_r (v := some (.int (nI 0))) rfl rfl (Or.inl ⟨z, rfl, rfl⟩)
  refine rt_k (k := 2) (pc' := 12) (L' := [some (.ref a)]) (st' := [.ref a, .ref a]) (h' := h) (fun _ => rfl) ?_
  refine rt_gf rfl c1 rfl rfl ?_
  refine rt_k (k := 1) (pc' := 16) (L' := [some (.ref a)]) (st' := [.int (nI 1), .int (nI (R.length + 1)), .ref a]) (h' := h) (fun _ => rfl) ?_
  refine rt_add rfl ?_
  refine rt_pf rfl c1 ⟨rfl, (show 2 < 3 by decide), rfl⟩ ?_
  refine rt_nm (fun h_52 e_53 => ?_)
  have f_54 : fr_ (fun z => z = a) h h_52 := by rw [e_53]; exact fr_set (e' := .inr (10, [.ref tt, .ref sz, .int (nI (R.length + 1 + 1))])) c1 (by rfl) (by first | decide | simp)
  have t_55 : et_ h h_52 := by rw [e_53]; exact et_set (e' := .inr (10, [.ref tt, .ref sz, .int (nI (R.length + 1 + 1))])) c1 (by simp [okT] <;> omega)
  have n_56 : h_52.length = h.length := by rw [e_53]; simp
  have c_57 : h_52[a]? = some (.inr (10, [.ref tt, .ref sz, .int (nI (R.length + 1 + 1))])) := by rw [e_53]; exact hs_self c1
  have c_58 : h_52[tt]? = some (.inl (8, 16, .inr (.inr (.inr (.inr F))))) := by rw [e_53]; exact hs_ne c2 (hc_ne c1 c2 (by intro q; cases q))
  have c_59 : h_52[sz]? = some (.inl (2, 4, .inl S)) := by rw [e_53]; exact hs_ne c3 (hc_ne c1 c3 (by intro q; cases q))
  refine rt_k (k := 1) (pc' := 21) (L' := [some (.ref a)]) (st' := [.int (nI 1)]) (h' := h_52) (fun _ => rfl) ?_
  have hlt : R.length + 1 < 4 := by omega
  have el : (R ++ [q]).length = R.length + 1 := by rw [List.length_append]; rfl
  refine rt_r (v := some (.int (nI 1))) rfl rfl (Or.inr ⟨hlt, rfl, f_54, t_55, F, S, by rw [el]; exact c_57, c_58, c_59, by omega, by decide, by rw [el]; exact hS0 _ (by omega) (by omega), fun c h1 h2 => hS0 c (by omega) h2, fun c q' hq' => ?_, fun i t ht => by cases ht⟩)
  rcases gt_snoc hq' with w | ⟨w1, w2⟩
  · obtain ⟨u1, u2, u3⟩ := HR c q' w
    exact ⟨u1, u2, fun i t ht => by obtain ⟨tb, v1, v2⟩ := u3 i t ht; exact ⟨tb, v1, v2.et t_55⟩⟩
  · subst w1; subst w2
    exact ⟨hS, hq, fun i t ht => by obtain ⟨tb, v1, v2⟩ := Hq i t ht; exact ⟨tb, v1, v2.et t_55⟩⟩
theorem gMr.z {a tt sz : Nat} {R : kR} {q : List kT} (C : gMr h a tt sz R q) (ha : zz a) (ht : zz tt) (hs : zz sz) : zR h a (R ++ [q]) := by
  obtain ⟨F, S, c1, c2, c3, hR, hq, hS, hS0, HR, Hq⟩ := C
  have el : (R ++ [q]).length = R.length + 1 := by rw [List.length_append]; rfl
  refine ⟨tt, sz, F, S, ⟨ha, by rw [el]; exact c1⟩, ⟨ht, c2⟩, ⟨hs, c3⟩, by omega, fun c q' hq' => ?_⟩
  rcases gt_snoc hq' with w | ⟨w1, w2⟩
  · exact HR c q' w
  · subst w1; subst w2; exact ⟨hS, hq, Hq⟩
theorem gMr.ex {h' : List va_E} {a tt sz : Nat} {R : kR} {q : List kT} (C : gMr h a tt sz R q) (E : ex_ h h') (ha : zz a) (ht : zz tt) (hs : zz sz) : gMr h' a tt sz R q := by
  obtain ⟨F, S, c1, c2, c3, hR, hq, hS, hS0, HR, Hq⟩ := C
  exact ⟨F, S, (E _ _ ⟨ha, c1⟩).2, (E _ _ ⟨ht, c2⟩).2, (E _ _ ⟨hs, c3⟩).2, hR, hq, hS, hS0, HR.ex E, fun i t h9 => by obtain ⟨tb, v1, v2⟩ := Hq i t h9; exact ⟨tb, v1, v2.ex E⟩⟩
end RR

