/-! THE KEEPER'S CALLS, 2: install, rollback, current, step, count. -/
section KD
variable {X : Nat × (Nat → Int32)} {d : Nat} {h : List va_E} {Q : Option Value → List va_E → Prop} {I : List kL} {nx : Nat} {D : kD} {K : List kG} {made : Nat} {st : kS}
theorem cH.fm {h h' : List va_E} {A : Nat → Prop} (C : cH h K made st) (e : ∀ k, hA k → h'[k]? = h[k]?) (E : ex_ h h') : cH h' K made st := by
  obtain ⟨F, ⟨SN, SC, c1, c2, c3, c4, x⟩, a, b, c, k⟩ := C
  exact ⟨F, ⟨SN, SC, (e 14 (by decide)).trans c1, (e 15 (by decide)).trans c2, (e 16 (by decide)).trans c3, (e 17 (by decide)).trans c4, x⟩, a, b, c, k.ex E⟩
/-- what install answers and leaves, of what was learnt -/
def insP (I : List kL) (D : kD) (K : List kG) (made : Nat) (st : kS) (g : kG) (hw cu : Int32) (v : Option Value) (K' : List kG) (made' : Nat) (st' : kS) : Prop := ∃ gn riv ned rg op li so fo, lSS I D gn riv ned rg op li so fo ∧ ((¬ (hw = 0 ∧ allIn I g ∧ isV I.length (lG I) (lM I) riv ned rg op li (stP I g)) ∧ ¬ so ∧ v = some (.int (-2)) ∧ K' = K ∧ made' = made ∧ st' = st) ∨ ∃ nxt, ((hw = 0 ∧ allIn I g ∧ isV I.length (lG I) (lM I) riv ned rg op li (stP I g) ∧ nxt = g) ∨ (¬ (hw = 0 ∧ allIn I g ∧ isV I.length (lG I) (lM I) riv ned rg op li (stP I g)) ∧ so ∧ nxt = arr (pkL I fo I.length))) ∧ ((clP nxt ∧ v = some (.int (-7)) ∧ K' = K ∧ made' = made ∧ st' = st) ∨ (¬ clP nxt ∧ ¬ cu < 0 ∧ v = some (.int (-5)) ∧ K' = K ∧ made' = made ∧ st' = st) ∨ (¬ clP nxt ∧ cu < 0 ∧ v = some (.int (nI nxt.length)) ∧ K' = kPut K nxt ∧ made' = made + 1 ∧ st' = wkS g nxt)))
theorem ins_2 {a : Nat} {nxt g : kG} {hw cu : Int32} (h39 : 39 ≤ h.length) (K0 : pk0 h) (CH : cH h K made st) (hm : made < 600) (hg : K[K.length - 1]? = some g) (Z : zG h a nxt) : rt_ X (d + 3) 72 58 [some (.ref 0), some (.int hw), some (.int cu), some (.ref a)] [] h (fun v h' => (clP nxt ∧ v = some (.int (-7)) ∧ h' = h) ∨ (¬ clP nxt ∧ ¬ cu < 0 ∧ v = some (.int (-5)) ∧ h' = h) ∨ (¬ clP nxt ∧ cu < 0 ∧ v = some (.int (nI nxt.length)) ∧ fr_ hA h h' ∧ cH h' (kPut K nxt) (made + 1) (wkS g nxt))) := by
  obtain ⟨F, ⟨SN, SC, c14, -⟩, -⟩ := id CH
  obtain ⟨od, ci, ca⟩ := Z.c
  refine rt_k (k := 1) (pc' := 59) (L' := [some (.ref 0), some (.int hw), some (.int cu), some (.ref a)]) (st' := [.ref a]) (h' := h) (fun _ => rfl) ?_
  refine rt_cvE rfl (by decide) ca rfl rfl rfl rfl (gen_shares Z) ?_
  refine rt_pe rfl (fun z => ?_) (fun z => ?_)
  rotate_left
  ·
    refine rt_k (k := 1) (pc' := 67) (L' := [some (.ref 0), some (.int hw), some (.int cu), some (.ref a)]) (st' := [.int (-7)]) (h' := h) (fun _ => rfl) ?_
    exact rt_r (v := some (.int (-7))) rfl rfl (Or.inl ⟨z, rfl, rfl⟩)
  refine rt_k (k := 1) (pc' := 69) (L' := [some (.ref 0), some (.int hw), some (.int cu), some (.ref a)]) (st' := [.int cu]) (h' := h) (fun _ => rfl) ?_
  refine rt_qlt rfl (fun z2 => ?_) (fun z2 => ?_)
  rotate_left
  ·
    refine rt_k (k := 1) (pc' := 74) (L' := [some (.ref 0), some (.int hw), some (.int cu), some (.ref a)]) (st' := [.int (-5)]) (h' := h) (fun _ => rfl) ?_
    exact rt_r (v := some (.int (-5))) rfl rfl (Or.inr (Or.inl ⟨z, z2, rfl, rfl⟩))
  refine rt_k (k := 1) (pc' := 76) (L' := [some (.ref 0), some (.int hw), some (.int cu), some (.ref a)]) (st' := [.ref 0]) (h' := h) (fun _ => rfl) ?_
  refine rt_gf rfl K0 rfl rfl ?_
  refine rt_k (k := 1) (pc' := 80) (L' := [some (.ref 0), some (.int hw), some (.int cu), some (.ref a)]) (st' := [.ref a, .ref 14]) (h' := h) (fun _ => rfl) ?_
  refine rt_cv rfl (by decide) c14 rfl rfl rfl rfl (his_put CH hm Z hg) ?_
  rintro _ h1 ⟨rfl, f1, C1⟩
  obtain ⟨od', ci', ca'⟩ := (Z.ex (fr_ex f1 hA_zz)).c
  refine rt_k (k := 1) (pc' := 84) (L' := [some (.ref 0), some (.int hw), some (.int cu), some (.ref a)]) (st' := [.ref a]) (h' := h1) (fun _ => rfl) ?_
  refine rt_cvE (v := some (.int (nI nxt.length))) (h' := h1) rfl (by decide) ca' rfl rfl rfl rfl ?_ ?_
  · refine rt_k (k := 1) (pc' := 1) (L' := [some (.ref a)]) (st' := [.ref a]) (h' := h1) (fun _ => rfl) ?_
    refine rt_gf rfl ca' rfl rfl ?_
    exact rt_r (v := some (.int (nI nxt.length))) rfl rfl ⟨rfl, rfl⟩
  exact rt_r (v := some (.int (nI nxt.length))) rfl rfl (Or.inr (Or.inr ⟨z, z2, rfl, f1, C1⟩))
theorem kp_install {g : kG} (h39 : 39 ≤ h.length) (K0 : pk0 h) (CI : cI h I nx) (CR : cR h D) (h8 : nbn I I.length ≤ 8) (U : uniN I) (S : cSo h I D) (H8 : ∀ h so fo, sL h I D so fo → so → crd fo I.length ≤ 8) (CH : cH h K made st) (hm : made < 600) (hg : K[K.length - 1]? = some g) (hw cu : Int32) : rt_ X (d + 21) 72 0 [some (.ref 0), some (.int hw), some (.int cu), none] [] h (fun v h' => (¬ hw = 0 ∧ ¬ hw = 1 ∧ v = some (.int (-1)) ∧ h' = h) ∨ ((hw = 0 ∨ hw = 1) ∧ gr (fun z => sB z ∨ hA z) 5 40 h h' ∧ (∃ so fo, sL h' I D so fo) ∧ ∃ K' made' st', cH h' K' made' st' ∧ insP I D K made st g hw cu v K' made' st')) := by
  obtain ⟨F, hC0, k1, k4, hm6, HK⟩ := id CH
  obtain ⟨a, fa, za⟩ := HK _ g hg
  obtain ⟨le, sz, -⟩ := id S
  obtain ⟨G0, rg0, op0, li0, so0, fo0, M0, N0, R0, E0, c9, -⟩ := id sz
  have body : (hw = 0 ∨ hw = 1) → rt_ X (d + 21) 72 11 [some (.ref 0), some (.int hw), some (.int cu), none] [] h (fun v h' => (¬ hw = 0 ∧ ¬ hw = 1 ∧ v = some (.int (-1)) ∧ h' = h) ∨ ((hw = 0 ∨ hw = 1) ∧ gr (fun z => sB z ∨ hA z) 5 40 h h' ∧ (∃ so fo, sL h' I D so fo) ∧ ∃ K' made' st', cH h' K' made' st' ∧ insP I D K made st g hw cu v K' made' st')) := fun hhw => by
    refine rt_k (k := 1) (pc' := 12) (L' := [some (.ref 0), some (.int hw), some (.int cu), none]) (st' := [.ref 0]) (h' := h) (fun _ => rfl) ?_
    refine rt_gf rfl K0 rfl rfl ?_
    refine rt_cv rfl (by decide) c9 rfl rfl rfl rfl (so_lrn CI CR h8 S) ?_
    rintro _ h1 ⟨rfl, f1, so, fo, L1⟩
    have K1 : pk0 h1 := fr_at f1 (by unfold sB; omega) K0
    have E1 := fr_ex f1 sB_zz
    have CH1 : cH h1 K made st := CH.fm (A := fun _ => True) (fun k hk => f1.2.2 k (by unfold hA at hk; unfold sB; omega)) E1
    have CI1 := CI.fm f1 (by decide) (by decide) sB_zz
    have l1 : h1.length = h.length := f1.1
    obtain ⟨F1, hC1, -, -, -, HK1⟩ := id CH1
    obtain ⟨a1, fa1, za1⟩ := HK1 _ g hg
    obtain ⟨gn, riv, ned, rg, op, li, C1, sp⟩ := id L1
    obtain ⟨M, N, R, E, nx', e9, -⟩ := id C1
    obtain ⟨SN, SC, c14, -⟩ := id hC1
    have tail : ∀ (h2 : List va_E) (b : Nat) (nxt : kG), gr (fun _ => False) 5 40 h1 h2 → zG h2 b nxt → ((hw = 0 ∧ allIn I g ∧ isV I.length (lG I) (lM I) riv ned rg op li (stP I g) ∧ nxt = g) ∨ (¬ (hw = 0 ∧ allIn I g ∧ isV I.length (lG I) (lM I) riv ned rg op li (stP I g)) ∧ so ∧ nxt = arr (pkL I fo I.length))) → rt_ X (d + 21) 72 58 [some (.ref 0), some (.int hw), some (.int cu), some (.ref b)] [] h2 (fun v h' => (¬ hw = 0 ∧ ¬ hw = 1 ∧ v = some (.int (-1)) ∧ h' = h) ∨ ((hw = 0 ∨ hw = 1) ∧ gr (fun z => sB z ∨ hA z) 5 40 h h' ∧ (∃ so fo, sL h' I D so fo) ∧ ∃ K' made' st', cH h' K' made' st' ∧ insP I D K made st g hw cu v K' made' st')) := fun h2 b nxt g2 Z2 hn => by
      have hne : ∀ k, k < 39 → h2[k]? = h1[k]? := fun k hk => g2.2.2.2 k (by omega) id
      have K2 : pk0 h2 := (hne 0 (by omega)).trans K1
      have CH2 : cH h2 K made st := CH1.fm (A := fun _ => True) (fun k hk => hne k (by unfold hA at hk; omega)) (gr_ex g2 (fun _ _ => id))
      have L2 : sL h2 I D so fo := L1.fm (hne 4 (by omega)) (fun k hk => hne k (by unfold sB at hk; omega))
      have gg : gr (fun z => sB z ∨ hA z) 5 40 h h2 := gr_mo (gr_tr (gr_mo (gr_fr f1) (fun _ q => Or.inl q) (Nat.le_refl _) (Nat.le_refl _)) (gr_mo g2 (fun _ q => absurd q id) (Nat.le_refl _) (Nat.le_refl _))) (fun _ q => q) (by omega) (by omega)
      refine rt_w (ins_2 (d := d + 18) (by have := g2.1; omega) K2 CH2 hm hg Z2) ?_
      rintro v h3 (⟨q1, q2, rfl⟩ | ⟨q1, q2, q3, rfl⟩ | ⟨q1, q2, q3, f3, C3⟩)
      · exact Or.inr ⟨hhw, gg, ⟨so, fo, L2⟩, K, made, st, CH2, gn, riv, ned, rg, op, li, so, fo, sp, Or.inr ⟨nxt, hn, Or.inl ⟨q1, q2, rfl, rfl, rfl⟩⟩⟩
      · exact Or.inr ⟨hhw, gg, ⟨so, fo, L2⟩, K, made, st, CH2, gn, riv, ned, rg, op, li, so, fo, sp, Or.inr ⟨nxt, hn, Or.inr (Or.inl ⟨q1, q2, q3, rfl, rfl, rfl⟩)⟩⟩
      · have L3 : sL h3 I D so fo := L2.fm (f3.2.2 4 (by decide)) (fun k hk => f3.2.2 k (by unfold sB at hk; unfold hA; omega))
        exact Or.inr ⟨hhw, gr_mo (gr_tr gg (gr_mo (gr_fr f3) (fun _ q => Or.inr q) (Nat.le_refl _) (Nat.le_refl _))) (fun _ q => q) (by omega) (by omega), ⟨so, fo, L3⟩, _, _, _, C3, gn, riv, ned, rg, op, li, so, fo, sp, Or.inr ⟨nxt, hn, Or.inr (Or.inr ⟨q1, q2, q3, rfl, rfl, rfl⟩)⟩⟩
    have best : ¬ (hw = 0 ∧ allIn I g ∧ isV I.length (lG I) (lM I) riv ned rg op li (stP I g)) → rt_ X (d + 21) 72 46 [some (.ref 0), some (.int hw), some (.int cu), none] [] h1 (fun v h' => (¬ hw = 0 ∧ ¬ hw = 1 ∧ v = some (.int (-1)) ∧ h' = h) ∨ ((hw = 0 ∨ hw = 1) ∧ gr (fun z => sB z ∨ hA z) 5 40 h h' ∧ (∃ so fo, sL h' I D so fo) ∧ ∃ K' made' st', cH h' K' made' st' ∧ insP I D K made st g hw cu v K' made' st')) := fun hno => by
      by_cases hso : so
      · have t0 := trivial
        refine rt_k (k := 1) (pc' := 47) (L' := [some (.ref 0), some (.int hw), some (.int cu), none]) (st' := [.ref 0]) (h' := h1) (fun _ => rfl) ?_
        refine rt_cv rfl (by decide) K1 rfl rfl rfl rfl (bst_gen K1 (by omega) CI1 e9 (H8 h1 so fo L1 hso)) ?_
        rintro _ h2 (⟨q, rfl, e⟩ | ⟨q, b, rfl, g2, Z2⟩)
        ·
          exact absurd hso q
        refine rt_k (k := 3) (pc' := 58) (L' := [some (.ref 0), some (.int hw), some (.int cu), some (.ref b)]) (st' := []) (h' := h2) (fun _ => rfl) ?_
        exact tail h2 b _ g2 Z2 (Or.inr ⟨hno, q, rfl⟩)
      · have h8' : rt_ X (d + 20) 98 0 [some (.ref 0), none, none, none, none] [] h1 (fun v h' => v = some .null ∧ h' = h1) := by
          refine rt_k (k := 1) (pc' := 1) (L' := [some (.ref 0), none, none, none, none]) (st' := [.ref 0]) (h' := h1) (fun _ => rfl) ?_
          refine rt_gf rfl K1 rfl rfl ?_
          refine rt_cvE (v := some (.int (tB so))) (h' := h1) rfl (by decide) e9 rfl rfl rfl rfl ?_ ?_
          · refine rt_k (k := 1) (pc' := 1) (L' := [some (.ref 9)]) (st' := [.ref 9]) (h' := h1) (fun _ => rfl) ?_
            refine rt_gf rfl e9 rfl rfl ?_
            exact rt_r (v := some (.int (tB so))) rfl (rtT rfl rfl) ⟨rfl, rfl⟩
          refine rt_pn rfl (fun z => absurd z (hso)) (fun _ => ?_)
          refine rt_k (k := 1) (pc' := 11) (L' := [some (.ref 0), none, none, none, none]) (st' := [.null]) (h' := h1) (fun _ => rfl) ?_
          exact rt_r (v := some (.null)) rfl rfl (⟨rfl, rfl⟩)
        refine rt_k (k := 1) (pc' := 47) (L' := [some (.ref 0), some (.int hw), some (.int cu), none]) (st' := [.ref 0]) (h' := h1) (fun _ => rfl) ?_
        refine rt_cvE rfl (by decide) K1 rfl rfl rfl rfl h8' ?_
        refine rt_k (k := 4) (pc' := 57) (L' := [some (.ref 0), some (.int hw), some (.int cu), some (.null)]) (st' := [.int (-2)]) (h' := h1) (fun _ => rfl) ?_
        exact rt_r (v := some (.int (-2))) rfl rfl (Or.inr ⟨hhw, gr_mo (gr_fr f1) (fun _ q => Or.inl q) (by omega) (by omega), ⟨so, fo, L1⟩, K, made, st, CH1, gn, riv, ned, rg, op, li, so, fo, sp, Or.inl ⟨hno, hso, rfl, rfl, rfl, rfl⟩⟩)
    refine rt_k (k := 1) (pc' := 19) (L' := [some (.ref 0), some (.int hw), some (.int cu), none]) (st' := [.int hw]) (h' := h1) (fun _ => rfl) ?_
    refine rt_qn rfl (fun z => ?_) (fun z => ?_)
    ·
      exact best (fun w => z w.1)
    refine rt_k (k := 2) (pc' := 24) (L' := [some (.ref 0), some (.int hw), some (.int cu), none]) (st' := [.ref 0, .ref 0]) (h' := h1) (fun _ => rfl) ?_
    refine rt_gf rfl K1 rfl rfl ?_
    refine rt_cvE rfl (by decide) c14 rfl rfl rfl rfl (his_top hC1 k1 k4 fa1) ?_
    refine rt_cvE rfl (by decide) K1 rfl rfl rfl rfl (stv K1 CI1 U C1 za1) ?_
    refine rt_pe rfl (fun z2 => ?_) (fun z2 => ?_)
    ·
      exact best (fun w => z2 w.2)
    refine rt_k (k := 1) (pc' := 37) (L' := [some (.ref 0), some (.int hw), some (.int cu), none]) (st' := [.ref 0]) (h' := h1) (fun _ => rfl) ?_
    refine rt_gf rfl K1 rfl rfl ?_
    refine rt_cvE rfl (by decide) c14 rfl rfl rfl rfl (his_top hC1 k1 k4 fa1) ?_
    refine rt_k (k := 4) (pc' := 58) (L' := [some (.ref 0), some (.int hw), some (.int cu), some (.ref a1)]) (st' := []) (h' := h1) (fun _ => rfl) ?_
    exact tail h1 a1 g (gr_mo gr_rf (fun _ q => q) (by omega) (by omega)) za1 (Or.inl ⟨z, z2.1, z2.2, rfl⟩)
  refine rt_k (k := 1) (pc' := 1) (L' := [some (.ref 0), some (.int hw), some (.int cu), none]) (st' := [.int hw]) (h' := h) (fun _ => rfl) ?_
  refine rt_qe rfl (fun z => ?_) (fun z => ?_)
  ·
    exact body (Or.inl z)
  refine rt_k (k := 2) (pc' := 6) (L' := [some (.ref 0), some (.int hw), some (.int cu), none]) (st' := [.int (nI 1), .int hw]) (h' := h) (fun _ => rfl) ?_
  refine rt_jeq rfl (fun z2 => ?_) (fun z2 => ?_)
  ·
    exact body (Or.inr z2)
  refine rt_k (k := 1) (pc' := 10) (L' := [some (.ref 0), some (.int hw), some (.int cu), none]) (st' := [.int (-1)]) (h' := h) (fun _ => rfl) ?_
  exact rt_r (v := some (.int (-1))) rfl rfl (Or.inl ⟨z, z2, rfl, rfl⟩)
end KD

