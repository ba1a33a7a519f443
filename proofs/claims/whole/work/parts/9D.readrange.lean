/-! A RANGE read. -/
section RS
variable {X : Nat × (Nat → Int32)} {d : Nat} {h : List va_E} {Q : Option Value → List va_E → Prop} {T : List Nat} {f b p : Nat} {ws : List kW}
def rgP (h : List va_E) (T : List Nat) (o : Option (kR × List kW)) (v : Option Value) (h' : List va_E) : Prop := gr r3 83 343 h h' ∧ ((∃ R ws' a, o = some (R, ws') ∧ v = some (.ref a) ∧ h.length ≤ a ∧ zR h' a R ∧ rG h' T ws') ∨ (o = none ∧ v = some .null ∧ rB h' T))
theorem rW_w {u : kW} {us : List kW} (W : rW T f b (u :: us)) : u = sl T f b ∧ us = wl (T.drop b) ∧ f < b := by
  rcases W with ⟨q, -⟩ | ⟨ws', q, q2, -, q4, -⟩
  · cases q
  · cases q; exact ⟨rfl, q4, q2⟩
theorem rW_0 (W : rW T f b []) : sl T f b = [] := by
  rcases W with ⟨-, q, -⟩ | ⟨ws', q, -⟩
  · exact sl_nil (by omega)
  · cases q
theorem rr_lp {h0 : List va_E} {a tt sz : Nat} (h39 : 39 ≤ h0.length) (ha : h0.length ≤ a ∧ h0.length ≤ tt ∧ h0.length ≤ sz) (n i : Nat) (hn : i + n = 16) (R : kR) (q : List kT) (hi : i ≤ 4 * R.length + q.length) (h : List va_E) (f b p : Nat) (ws : List kW) (G : gr r3 (3 + 5 * i) (23 + 20 * i) h0 h) (M : gMr h a tt sz R q) (C : rC h T f b p) (W : rW T f b ws) (x : Option Value) : rt_ X (d + 6) 43 10 [some (.ref 3), some (.ref a), some (.int (nI i)), x] [] h (rgP h0 T (pRg ws (R.length + 1) q.length q R)) := by
  obtain ⟨P, c, h1, h2, h3⟩ := id C
  have za : zz a := by unfold zz; omega
  have zt : zz tt := by unfold zz; omega
  have zs : zz sz := by unfold zz; omega
  have M0 := M
  obtain ⟨F, S, c1, c2, c3, hR, hq, -⟩ := M0
  refine rt_k (k := 2) (pc' := 13) (L' := [some (.ref 3), some (.ref a), some (.int (nI i)), x]) (st' := [.int (nI 16), .int (nI i)]) (h' := h) (fun _ => rfl) ?_
  refine rt_ige rfl (by omega) (by decide) (fun z0 => ?_) (fun z0 => ?_)
  ·
    have e : n = 0 := by omega
    have e4 : q.length = 4 := by omega
    have eN : pRg ws (R.length + 1) q.length q R = none := by
      cases ws with
      | nil => rfl
      | cons w ws => rw [pRg, if_pos e4]
    rw [eN]
    refine rt_k (k := 1) (pc' := 80) (L' := [some (.ref 3), some (.ref a), some (.int (nI i)), x]) (st' := [.null]) (h' := h) (fun _ => rfl) ?_
    exact rt_r (v := some (.null)) rfl rfl (⟨gr_mo G (fun _ q => q) (by omega) (by omega), Or.inr ⟨rfl, rfl, f, b, p, C⟩⟩)
  obtain ⟨n, rfl⟩ : ∃ n', n = n' + 1 := ⟨n - 1, by omega⟩
  have hl0 := G.1
  refine rt_k (k := 1) (pc' := 17) (L' := [some (.ref 3), some (.ref a), some (.int (nI i)), x]) (st' := [.ref 3]) (h' := h) (fun _ => rfl) ?_
  refine rt_cv rfl (by decide) c rfl rfl rfl rfl (rd_test (by omega) C W) ?_
  rintro v h1' ⟨g1, (⟨w, ws', t, ta, e1, e2, rfl, e4, e5, f', b', p', C1, W1⟩ | ⟨e1, rfl, f', b', p', C1⟩)⟩
  rotate_left
  · have eN : pRg ws (R.length + 1) q.length q R = none := by
      cases ws with
      | nil => rfl
      | cons w ws =>
        rw [pRg]
        by_cases q4 : q.length = 4
        · rw [if_pos q4]
        · rw [if_neg q4]
          cases ht : pTst w with
          | none => rfl
          | some t => exact absurd ⟨w, ws, rfl, show (pTst w).isSome = true by rw [ht]; rfl⟩ e1
    rw [eN]
    refine rt_k (k := 4) (pc' := 34) (L' := [some (.ref 3), some (.ref a), some (.int (nI i)), some .null]) (st' := [.null]) (h' := h1') (fun _ => by cases x <;> rfl) ?_
    exact rt_r (v := some .null) rfl rfl ⟨gr_mo (gr_tr G g1) (fun _ q => q) (by omega) (by omega), Or.inr ⟨rfl, rfl, f', b', p', C1⟩⟩
  have G1 : gr r3 (3 + 5 * (i + 1)) (23 + 20 * (i + 1)) h0 h1' := gr_mo (gr_tr G g1) (fun _ q => q) (by omega) (by omega)
  have E1 := gr_ex g1 r3_zz
  have M1 := M.ex E1 za zt zs
  have l1 := g1.1
  have M1' := M1
  obtain ⟨F1, S1, k1, k2, k3, -⟩ := M1'
  refine rt_k (k := 1) (pc' := 21) (L' := [some (.ref 3), some (.ref a), some (.int (nI i)), some (.ref ta)]) (st' := []) (h' := h1') (fun _ => by cases x <;> rfl) ?_
  subst e1
  refine rt_k (k := 4) (pc' := 27) (L' := [some (.ref 3), some (.ref a), some (.int (nI i)), some (.ref ta)]) (st' := [.ref ta, .ref a]) (h' := h1') (fun _ => rfl) ?_
  refine rt_cv rfl (by decide) k1 rfl rfl rfl rfl (rng_add M1 e5) ?_
  rintro _ h2' (⟨q1, rfl, e9⟩ | ⟨q1, rfl, f2, t2, M2⟩)
  ·
    rw [pRg, if_pos q1]
    rw [e9]
    refine rt_k (k := 2) (pc' := 34) (L' := [some (.ref 3), some (.ref a), some (.int (nI i)), some (.ref ta)]) (st' := [.null]) (h' := h1') (fun _ => rfl) ?_
    exact rt_r (v := some (.null)) rfl rfl (⟨gr_mo G1 (fun _ q => q) (by omega) (by omega), Or.inr ⟨rfl, rfl, f', b', p', C1⟩⟩)
  have G2 : gr r3 (3 + 5 * (i + 1)) (23 + 20 * (i + 1)) h0 h2' := ⟨by rw [f2.1]; exact G1.1, by rw [f2.1]; exact G1.2.1, by rw [f2.2.1]; exact G1.2.2.1, fun k hk hr => by rw [f2.2.2 k (by omega)]; exact G1.2.2.2 k hk hr⟩
  have C2 : rC h2' T f' b' p' := by
    obtain ⟨⟨u1, ⟨gg, u2, u3⟩, u4, u5⟩, u6, u7⟩ := C1
    exact ⟨⟨fr_at f2 (by omega) u1, ⟨gg, fr_at f2 (by omega) u2, u3⟩, u4, u5⟩, fr_at f2 (by omega) u6, u7⟩
  have c2' := C2.2.1
  have M2' := M2
  obtain ⟨F2, S2, m1, m2, m3, -⟩ := M2'
  have ePR : pRg (w :: ws') (R.length + 1) q.length q R = match ws' with | [] => some (R ++ [q ++ [t]], []) | u :: us => if u = tx 4 then (if R.length + 1 = 4 then none else pRg us (R.length + 1 + 1) 0 [] (R ++ [q ++ [t]])) else if isCl u = true then some (R ++ [q ++ [t]], u :: us) else pRg (u :: us) (R.length + 1) (q.length + 1) (q ++ [t]) R := by
    rw [pRg, if_neg (by omega), e2]
    cases ws' <;> rfl
  rw [ePR]
  refine rt_k (k := 3) (pc' := 38) (L' := [some (.ref 3), some (.ref a), some (.int (nI i)), some (.ref ta)]) (st' := [.retAddr 4, .ref 3]) (h' := h2') (fun _ => rfl) ?_
  refine rt_cvE rfl (by decide) c2' rfl rfl rfl rfl (rd_wi4 C2) ?_
  refine rt_pe rfl (fun z1 => ?_) (fun z1 => ?_)
  rotate_left
  ·
    cases ws' with
    | nil => rw [rW_0 W1] at z1; cases z1
    | cons u us =>
    obtain ⟨w1, w2, w3⟩ := rW_w W1
    dsimp only
    rw [if_pos (w1.trans z1)]
    refine rt_k (k := 1) (pc' := 45) (L' := [some (.ref 3), some (.ref a), some (.int (nI i)), some (.ref ta)]) (st' := [.ref 3]) (h' := h2') (fun _ => rfl) ?_
    refine rt_cv rfl (by decide) c2' rfl rfl rfl rfl (rd_nx C2) ?_
    rintro _ h3 ⟨rfl, f3, f'', b'', C3, W3⟩
    rw [← w2] at W3
    have E3 := fr_ex f3 r3_zz
    have M3 := M2.ex E3 za zt zs
    have G3 : gr r3 (3 + 5 * (i + 1)) (23 + 20 * (i + 1)) h0 h3 := gr_mo (gr_tr G2 (gr_fr f3)) (fun _ q => q) (by omega) (by omega)
    have M3' := M3
    obtain ⟨F3, S3, n1, -⟩ := M3'
    refine rt_k (k := 1) (pc' := 49) (L' := [some (.ref 3), some (.ref a), some (.int (nI i)), some (.ref ta)]) (st' := [.ref a]) (h' := h3) (fun _ => rfl) ?_
    refine rt_cv rfl (by decide) n1 rfl rfl rfl rfl (rng_begin M3) ?_
    rintro _ h4 (⟨q2, rfl, e9⟩ | ⟨q2, rfl, f4, t4, M4⟩)
    ·
      rw [if_pos q2, e9]
      refine rt_k (k := 2) (pc' := 56) (L' := [some (.ref 3), some (.ref a), some (.int (nI i)), some (.ref ta)]) (st' := [.null]) (h' := h3) (fun _ => rfl) ?_
      exact rt_r (v := some (.null)) rfl rfl (⟨gr_mo G3 (fun _ q => q) (by omega) (by omega), Or.inr ⟨rfl, rfl, f'', b'', p', C3⟩⟩)
    rw [if_neg (by omega)]
    have G4 : gr r3 (3 + 5 * (i + 1)) (23 + 20 * (i + 1)) h0 h4 := ⟨by rw [f4.1]; exact G3.1, by rw [f4.1]; exact G3.2.1, by rw [f4.2.1]; exact G3.2.2.1, fun k hk hr => by rw [f4.2.2 k (by omega)]; exact G3.2.2.2 k hk hr⟩
    have C4 : rC h4 T f'' b'' p' := by
      obtain ⟨⟨u1, ⟨gg, u2, u3⟩, u4, u5⟩, u6, u7⟩ := C3
      exact ⟨⟨fr_at f4 (by omega) u1, ⟨gg, fr_at f4 (by omega) u2, u3⟩, u4, u5⟩, fr_at f4 (by omega) u6, u7⟩
    have el : (R ++ [q ++ [t]]).length = R.length + 1 := by rw [List.length_append]; rfl
    refine rt_k (k := 1) (pc' := 73) (L' := [some (.ref 3), some (.ref a), some (.int (nI i)), some (.ref ta)]) (st' := []) (h' := h4) (fun _ => rfl) ?_
    refine rt_inc (c := 1) rfl rfl ?_
    refine rt_k (k := 1) (pc' := 10) (L' := [some (.ref 3), some (.ref a), some (.int (nI (i + 1))), some (.ref ta)]) (st' := []) (h' := h4) (fun _ => rfl) ?_
    have rec9 := rr_lp h39 ha n (i + 1) (by omega) (R ++ [q ++ [t]]) [] (by rw [el]; simp; omega) h4 f'' b'' p' us G4 M4 C4 W3 (some (.ref ta))
    rw [el] at rec9
    exact rec9
  refine rt_k (k := 1) (pc' := 58) (L' := [some (.ref 3), some (.ref a), some (.int (nI i)), some (.ref ta)]) (st' := [.ref 3]) (h' := h2') (fun _ => rfl) ?_
  refine rt_cvE rfl (by decide) c2' rfl rfl rfl rfl (rd_end C2 W1) ?_
  refine rt_pn rfl (fun z2 => ?_) (fun z2 => ?_)
  ·
    subst z2
    dsimp only
    refine rt_k (k := 1) (pc' := 72) (L' := [some (.ref 3), some (.ref a), some (.int (nI i)), some (.ref ta)]) (st' := [.ref a]) (h' := h2') (fun _ => rfl) ?_
    exact rt_r (v := some (.ref a)) rfl rfl (⟨gr_mo G2 (fun _ q => q) (by omega) (by omega), Or.inl ⟨_, [], a, rfl, rfl, ha.1, M2.z za zt zs, f', b', p', C2, W1⟩⟩)
  cases ws' with
  | nil => exact absurd rfl z2
  | cons u us =>
  obtain ⟨w1, w2, w3⟩ := rW_w W1
  dsimp only
  rw [if_neg (fun y => z1 (w1.symm.trans y))]
  refine rt_k (k := 1) (pc' := 65) (L' := [some (.ref 3), some (.ref a), some (.int (nI i)), some (.ref ta)]) (st' := [.ref 3]) (h' := h2') (fun _ => rfl) ?_
  refine rt_cvE rfl (by decide) c2' rfl rfl rfl rfl (rd_cl C2) ?_
  refine rt_pe rfl (fun z3 => ?_) (fun z3 => ?_)
  rotate_left
  ·
    rw [if_pos (by rw [w1]; exact z3)]
    refine rt_k (k := 1) (pc' := 72) (L' := [some (.ref 3), some (.ref a), some (.int (nI i)), some (.ref ta)]) (st' := [.ref a]) (h' := h2') (fun _ => rfl) ?_
    exact rt_r (v := some (.ref a)) rfl rfl (⟨gr_mo G2 (fun _ q => q) (by omega) (by omega), Or.inl ⟨_, u :: us, a, rfl, rfl, ha.1, M2.z za zt zs, f', b', p', C2, W1⟩⟩)
  rw [if_neg (by rw [w1]; exact z3)]
  refine rt_inc (c := 1) rfl rfl ?_
  refine rt_k (k := 1) (pc' := 10) (L' := [some (.ref 3), some (.ref a), some (.int (nI (i + 1))), some (.ref ta)]) (st' := []) (h' := h2') (fun _ => rfl) ?_
  have el : (q ++ [t]).length = q.length + 1 := by rw [List.length_append]; rfl
  have rec9 := rr_lp h39 ha n (i + 1) (by omega) R (q ++ [t]) (by rw [el]; omega) h2' f' b' p' (u :: us) G2 M2 C2 W1 (some (.ref ta))
  rw [el] at rec9
  exact rec9
termination_by n
theorem rd_range (h39 : 39 ≤ h.length) (C : rC h T f b p) (W : rW T f b ws) : rt_ X (d + 6) 43 0 [some (.ref 3), none, none, none] [] h (rgP h T (pRng ws)) := by
  refine rt_k (k := 1) (pc' := 3) (L' := [some (.ref 3), none, none, none]) (st' := [.ref h.length]) (h' := (h ++ [.inr (10, [.null, .null, .int (nI 0)])])) (fun _ => rfl) ?_
  refine rt_nm (fun h_1 e_2 => ?_)
  have g_3 : gr (fun _ => False) 1 (3) h h_1 := by rw [e_2]; exact gr_mo (gr_tr (gr_rf (h := h)) (gr_app (.inr (10, [.null, .null, .int (nI 0)])))) (fun _ q => q) (by first | exact Nat.le_refl _ | omega) (by first | exact Nat.le_refl _ | (simp only [ab_z]; omega))
  have n_4 : h_1.length = h.length + 1 := by rw [e_2]; simp
  have c_5 : h_1[h.length]? = some (.inr (10, [.null, .null, .int (nI 0)])) := by rw [e_2]; exact ha_new
  refine rt_k (k := 1) (pc' := 4) (L' := [some (.ref 3), none, none, none]) (st' := [.ref h.length, .ref h.length]) (h' := h_1) (fun _ => rfl) ?_
  have gA := g_3
  have cA := c_5
  have lA : h_1.length = h.length + 1 := by omega
  generalize h_1 = h1 at *
  refine rt_c rfl rfl (rng_mk cA) ?_
  rintro _ h2 ⟨rfl, g2, M2⟩
  have hk : ∀ k, k < h.length → h2[k]? = h[k]? := fun k hk => (g2.2.2.2 k (by omega) (by omega)).trans (gA.2.2.2 k hk id)
  have G2 : gr r3 (3 + 5 * 0) (23 + 20 * 0) h h2 := ⟨by have := g2.1; omega, by have := g2.2.1; omega, by have := g2.2.2.1; have := gA.2.2.1; omega, fun k hk9 _ => hk k hk9⟩
  have C2 : rC h2 T f b p := by
    obtain ⟨⟨u1, ⟨gg, u2, u3⟩, u4, u5⟩, u6, u7⟩ := C
    exact ⟨⟨(hk 1 (by omega)).trans u1, ⟨gg, (hk 2 (by omega)).trans u2, u3⟩, u4, u5⟩, (hk 3 (by omega)).trans u6, u7⟩
  refine rt_k (k := 3) (pc' := 10) (L' := [some (.ref 3), some (.ref h.length), some (.int (nI 0)), none]) (st' := []) (h' := h2) (fun _ => rfl) ?_
  exact rr_lp h39 ⟨by omega, by omega, by omega⟩ 16 0 rfl [] [] (Nat.zero_le _) h2 f b p ws G2 M2 C2 W _
end RS

