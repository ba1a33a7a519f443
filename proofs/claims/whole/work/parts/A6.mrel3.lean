/-! THE REFERENCE, 17: the clauses of a release. -/
def mlP (h0 : List va_E) (tl : Int32) (ws : List kW) (c0 s0 l a nd nr bk br ow : Nat) (o : Nat → Int32) (res : Option kL) (v : Option Value) (h' : List va_E) : Prop := gr (fun z => z = 23) (c0 + 4 + 19 * ws.length) (s0 + 40 + 450 * ws.length) h0 h' ∧ (∃ p', h'[23]? = some (mo tl (nI ws.length) p' o)) ∧ ((∃ r, res = some r ∧ v = some (.ref a) ∧ l ≤ h'.length ∧ yQ l h' a nd nr bk br ow r) ∨ (res = none ∧ v = some .null))
section MR
variable {X : Nat × (Nat → Int32)} {d : Nat} {h : List va_E} {Q : Option Value → List va_E → Prop} {o : Nat → Int32} {ws : List kW} {tl : Int32} {l a nd nr bk br ow : Nat}
theorem pCl_none {f : Nat} {k : kW} {ws : List kW} {n b : kD} {p : List kW} (hf : n.length + b.length + p.length + f = 13) (hb : n.length ≤ 6 ∧ b.length ≤ 3 ∧ p.length ≤ 4) (h0 : k = tx 0 → n.length = 6 ∨ (∀ w us, ws = w :: us → isNm w = true → pRng us = none)) (h1 : k = tx 1 → b.length = 3 ∨ (∀ w us, ws = w :: us → isNm w = true → pRng us = none)) (h2 : k = tx 2 → p.length = 4 ∨ (∀ w us, ws = w :: us → ¬ isPt w = true)) : pCl f (k :: ws) n b p = none := by
  cases f with
  | zero => rfl
  | succ f =>
    rw [pCl_c]
    by_cases e0 : k = tx 0
    · rw [if_pos e0]
      by_cases z : n.length = 6
      · rw [if_pos z]
      · rw [if_neg z]
        cases ws with
        | nil => rfl
        | cons w us =>
          dsimp only
          by_cases y : isNm w = true
          · rcases h0 e0 with q | q
            · exact absurd q z
            · rw [if_pos y, q w us rfl y]
          · rw [if_neg y]
    · rw [if_neg e0]
      by_cases e1 : k = tx 1
      · rw [if_pos e1]
        by_cases z : b.length = 3
        · rw [if_pos z]
        · rw [if_neg z]
          cases ws with
          | nil => rfl
          | cons w us =>
            dsimp only
            by_cases y : isNm w = true
            · rcases h1 e1 with q | q
              · exact absurd q z
              · rw [if_pos y, q w us rfl y]
            · rw [if_neg y]
      · rw [if_neg e1]
        by_cases e2 : k = tx 2
        · rw [if_pos e2]
          by_cases z : p.length = 4
          · rw [if_pos z]
          · rw [if_neg z]
            cases ws with
            | nil => rfl
            | cons w us =>
              dsimp only
              rcases h2 e2 with q | q
              · exact absurd q z
              · rw [if_neg (q w us rfl)]
        · rw [if_neg e2]
theorem ml_lp {h0 : List va_E} {c0 s0 : Nat} (h39 : 39 ≤ h0.length) (W0 : mW h0 ws) (hz : yAd a nd nr bk br ow l) (hl0 : h0.length ≤ a) (i : Nat) (h : List va_E) (r : kL) (f : Nat) (hf : (lNe r).length + (lBr r).length + (lOw r).length + f = 13) (hi2 : 2 ≤ i) (hi : i ≤ ws.length) (G : gr (fun z => z = 23) (c0 + 19 * (i - 2)) (s0 + 450 * (i - 2)) h0 h) (hlh : l ≤ h.length) (c23 : h[23]? = some (mo tl (nI ws.length) (nI i) o)) (Y : yQ l h a nd nr bk br ow r) (x2 x3 x4 x5 : Option Value) : rt_ X (d + 8) 131 72 [some (.ref 23), some (.ref a), x2, x3, x4, x5] [] h (mlP h0 tl ws c0 s0 l a nd nr bk br ow o ((pCl f (ws.drop i) (lNe r) (lBr r) (lOw r)).map (fun q => (lNo r, lNm r, lVe r, q.1, q.2.1, q.2.2)))) := by
  have hG := G.1
  obtain ⟨F25, c25, hw4, HF⟩ := id (W0.g G)
  refine rt_k (k := 1) (pc' := 73) (L' := [some (.ref 23), some (.ref a), x2, x3, x4, x5]) (st' := [.ref 23]) (h' := h) (fun _ => by first | rfl | (cases x2 <;> rfl) | (cases x3 <;> rfl) | (cases x4 <;> rfl) | (cases x5 <;> rfl)) ?_
  refine rt_gf rfl c23 rfl rfl ?_
  refine rt_k (k := 1) (pc' := 77) (L' := [some (.ref 23), some (.ref a), x2, x3, x4, x5]) (st' := [.ref 23, .int (nI i)]) (h' := h) (fun _ => by first | rfl | (cases x2 <;> rfl) | (cases x3 <;> rfl) | (cases x4 <;> rfl) | (cases x5 <;> rfl)) ?_
  refine rt_gf rfl c23 rfl rfl ?_
  refine rt_ige rfl (by omega) (by omega) (fun z => ?_) (fun z => ?_)
  ·
    have e0 : ws.drop i = [] := List.drop_of_length_le z
    have e1 : pCl f [] (lNe r) (lBr r) (lOw r) = some (lNe r, lBr r, lOw r) := by cases f <;> rfl
    rw [e0, e1]
    refine rt_k (k := 1) (pc' := 323) (L' := [some (.ref 23), some (.ref a), x2, x3, x4, x5]) (st' := [.ref a]) (h' := h) (fun _ => by first | rfl | (cases x2 <;> rfl) | (cases x3 <;> rfl) | (cases x4 <;> rfl) | (cases x5 <;> rfl)) ?_
    exact rt_r (v := some (.ref a)) rfl rfl (⟨gr_mo G (fun _ q => q) (by omega) (by omega), ⟨_, c23⟩, Or.inl ⟨r, rfl, rfl, hlh, Y⟩⟩)
  obtain ⟨k, hk⟩ := gt_ex z
  obtain ⟨ka, fk, Sk⟩ := HF i k hk
  obtain ⟨kv, kx, ky, kc, -, -⟩ := Sk.at
  have ed := drop_c hk
  rw [ed]
  refine rt_k (k := 1) (pc' := 84) (L' := [some (.ref 23), some (.ref a), x2, x3, x4, x5]) (st' := [.ref 23]) (h' := h) (fun _ => by first | rfl | (cases x2 <;> rfl) | (cases x3 <;> rfl) | (cases x4 <;> rfl) | (cases x5 <;> rfl)) ?_
  refine rt_cvE rfl (by decide) c23 rfl rfl rfl rfl (m_here1 c23 c25 hw4 z fk) ?_
  refine rt_k (k := 3) (pc' := 90) (L' := [some (.ref 23), some (.ref a), some (.ref ka), x3, x4, x5]) (st' := [.ref 23, .ref 23]) (h' := h) (fun _ => by first | rfl | (cases x2 <;> rfl) | (cases x3 <;> rfl) | (cases x4 <;> rfl) | (cases x5 <;> rfl)) ?_
  refine rt_gf rfl c23 rfl rfl ?_
  refine rt_k (k := 1) (pc' := 94) (L' := [some (.ref 23), some (.ref a), some (.ref ka), x3, x4, x5]) (st' := [.int (nI 1), .int (nI i), .ref 23]) (h' := h) (fun _ => by first | rfl | (cases x2 <;> rfl) | (cases x3 <;> rfl) | (cases x4 <;> rfl) | (cases x5 <;> rfl)) ?_
  refine rt_add rfl ?_
  refine rt_pf rfl c23 ⟨rfl, (show 4 < 24 by decide), rfl⟩ ?_
  refine rt_nm (fun h_1 e_2 => ?_)
  have f_3 : fr_ (fun z => z = 23) h h_1 := by rw [e_2]; exact fr_set (e' := .inr (12, [.ref 24, .int tl, .ref 25, .int (nI ws.length), .int (nI (i + 1)), .ref 26, .int (o 0), .int (o 1), .ref 27, .ref 28, .int (o 2), .ref 29, .int (o 3), .int (o 4), .ref 30, .ref 31, .int (o 5), .ref 32, .int (o 6), .ref 33, .ref 34, .int (o 7), .int (o 8), .ref 35])) c23 (by rfl) (by first | decide | simp)
  have n_4 : h_1.length = h.length := by rw [e_2]; simp
  have c_5 : h_1[23]? = some (.inr (12, [.ref 24, .int tl, .ref 25, .int (nI ws.length), .int (nI (i + 1)), .ref 26, .int (o 0), .int (o 1), .ref 27, .ref 28, .int (o 2), .ref 29, .int (o 3), .int (o 4), .ref 30, .ref 31, .int (o 5), .ref 32, .int (o 6), .ref 33, .ref 34, .int (o 7), .int (o 8), .ref 35])) := by rw [e_2]; exact hs_self c23
  have c_6 : h_1[25]? = some (.inl (9, 400, .inr (.inr (.inr (.inr F25))))) := by rw [e_2]; exact hs_ne c25 (by decide)
  have c_7 : h_1[ka]? = some (.inr (17, [.ref kv, .int (nI 0), .int kx, .int ky])) := by rw [e_2]; exact hs_ne kc (hc_ne c23 kc (by intro q; cases q))
  have F1 := f_3
  have d23 := c_5
  have d25 := c_6
  have kc1 := c_7
  have E1 : ex_ h h_1 := fr_ex F1 (fun k q => by unfold zz at q; omega)
  have S1 := Sk.ex E1
  have G1 : gr (fun z => z = 23) (c0 + 19 * (i - 2)) (s0 + 450 * (i - 2)) h0 h_1 := gr_mo (gr_tr G (gr_fr F1)) (fun _ q => q) (by omega) (by omega)
  have Y1 := Y.ew (ew_ex E1) (fun k hk => F1.2.2 k (by rcases hk with e | e | e | e | e | e <;> omega))
  have l1 : h_1.length = h.length := F1.1
  generalize h_1 = h1 at *
  obtain ⟨nm, ve, NF, RF, BF, QF, OF, ⟨q1, q2, q3, q4, q5, q6⟩, a2, a3, a4, a5, a6, a7⟩ := id Y1
  have HF1 := HF.ex E1
  have nul : pCl f (k :: ws.drop (i + 1)) (lNe r) (lBr r) (lOw r) = none → ∀ h', gr (fun z => z = 23) (c0 + 4 + 19 * ws.length) (s0 + 40 + 450 * ws.length) h0 h' → (∃ p', h'[23]? = some (mo tl (nI ws.length) p' o)) → mlP h0 tl ws c0 s0 l a nd nr bk br ow o ((pCl f (k :: ws.drop (i + 1)) (lNe r) (lBr r) (lOw r)).map (fun q => (lNo r, lNm r, lVe r, q.1, q.2.1, q.2.2))) (some .null) h' := fun e h' g c => by
    rw [e]; exact ⟨g, c, Or.inr ⟨rfl, rfl⟩⟩
  have g0 : gr (fun z => z = 23) (c0 + 4 + 19 * ws.length) (s0 + 40 + 450 * ws.length) h0 h1 := gr_mo G1 (fun _ q => q) (by omega) (by omega)
  refine rt_k (k := 2) (pc' := 101) (L' := [some (.ref 23), some (.ref a), some (.ref ka), x3, x4, x5]) (st' := [.retAddr 2, .ref ka]) (h' := h1) (fun _ => by first | rfl | (cases x3 <;> rfl) | (cases x4 <;> rfl) | (cases x5 <;> rfl)) ?_
  refine rt_cvE rfl (by decide) kc1 rfl rfl rfl rfl (ce_2 S1) ?_
  refine rt_pe rfl (fun z2 => ?_) (fun z2 => ?_)
  rotate_left
  ·
    have n0 : ¬ k = tx 0 := fun q => by rw [q] at z2; exact absurd z2 (by decide)
    have n1 : ¬ k = tx 1 := fun q => by rw [q] at z2; exact absurd z2 (by decide)
    refine rt_k (k := 1) (pc' := 108) (L' := [some (.ref 23), some (.ref a), some (.ref ka), x3, x4, x5]) (st' := [.ref a]) (h' := h1) (fun _ => by first | rfl | (cases x3 <;> rfl) | (cases x4 <;> rfl) | (cases x5 <;> rfl)) ?_
    refine rt_gf rfl q1 rfl rfl ?_
    refine rt_k (k := 1) (pc' := 112) (L' := [some (.ref 23), some (.ref a), some (.ref ka), x3, x4, x5]) (st' := [.int (nI 4), .int (nI ((lOw r).length))]) (h' := h1) (fun _ => by first | rfl | (cases x3 <;> rfl) | (cases x4 <;> rfl) | (cases x5 <;> rfl)) ?_
    refine rt_ieq rfl (by omega) (by decide) (fun y4 => ?_) (fun y4 => ?_)
    ·
      refine rt_k (k := 1) (pc' := 126) (L' := [some (.ref 23), some (.ref a), some (.ref ka), x3, x4, x5]) (st' := [.null]) (h' := h1) (fun _ => by first | rfl | (cases x3 <;> rfl) | (cases x4 <;> rfl) | (cases x5 <;> rfl)) ?_
      exact rt_r (v := some (.null)) rfl rfl (nul (pCl_none hf a2 (fun q => absurd q n0) (fun q => absurd q n1) (fun _ => Or.inl y4)) h1 g0 ⟨_, d23⟩)
    by_cases hl : i + 1 < ws.length
    rotate_left
    · have t0 := trivial
      refine rt_k (k := 1) (pc' := 116) (L' := [some (.ref 23), some (.ref a), some (.ref ka), x3, x4, x5]) (st' := [.ref 23]) (h' := h1) (fun _ => by first | rfl | (cases x3 <;> rfl) | (cases x4 <;> rfl) | (cases x5 <;> rfl)) ?_
      refine rt_cvE rfl (by decide) d23 rfl rfl rfl rfl (m_here0 d23 hw4 (by omega)) ?_
      refine rt_cE rfl rfl m_isPath0 ?_
      refine rt_pn rfl (fun z => absurd z ((by decide))) (fun _ => ?_)
      refine rt_k (k := 1) (pc' := 126) (L' := [some (.ref 23), some (.ref a), some (.ref ka), x3, x4, x5]) (st' := [.null]) (h' := h1) (fun _ => by first | rfl | (cases x3 <;> rfl) | (cases x4 <;> rfl) | (cases x5 <;> rfl)) ?_
      exact rt_r (v := some (.null)) rfl rfl (nul (pCl_none hf a2 (fun q => absurd q n0) (fun q => absurd q n1) (fun _ => Or.inr (fun w us e => by rw [List.drop_of_length_le (by omega)] at e; cases e))) h1 g0 ⟨_, d23⟩)
    obtain ⟨w, hw⟩ := gt_ex hl
    obtain ⟨wa, fw, Sw⟩ := HF1 (i + 1) w hw
    have ed2 := drop_c hw
    refine rt_k (k := 1) (pc' := 116) (L' := [some (.ref 23), some (.ref a), some (.ref ka), x3, x4, x5]) (st' := [.ref 23]) (h' := h1) (fun _ => by first | rfl | (cases x3 <;> rfl) | (cases x4 <;> rfl) | (cases x5 <;> rfl)) ?_
    refine rt_cvE rfl (by decide) d23 rfl rfl rfl rfl (m_here1 d23 d25 hw4 hl fw) ?_
    refine rt_cE rfl rfl (m_isPath Sw) ?_
    refine rt_pn rfl (fun y5 => ?_) (fun y5 => ?_)
    rotate_left
    ·
      refine rt_k (k := 1) (pc' := 126) (L' := [some (.ref 23), some (.ref a), some (.ref ka), x3, x4, x5]) (st' := [.null]) (h' := h1) (fun _ => by first | rfl | (cases x3 <;> rfl) | (cases x4 <;> rfl) | (cases x5 <;> rfl)) ?_
      exact rt_r (v := some (.null)) rfl rfl (nul (pCl_none hf a2 (fun q => absurd q n0) (fun q => absurd q n1) (fun _ => Or.inr (fun w us e => by rw [ed2] at e; cases e; exact y5))) h1 g0 ⟨_, d23⟩)
    have hf1 : 1 ≤ f := by omega
    have ep : pCl f (k :: ws.drop (i + 1)) (lNe r) (lBr r) (lOw r) = pCl (f - 1) (ws.drop (i + 2)) (lNe r) (lBr r) (lOw r ++ [w]) := by
      obtain ⟨f, rfl⟩ : ∃ f', f = f' + 1 := ⟨f - 1, by omega⟩
      rw [pCl_c, if_neg n0, if_neg n1, if_pos z2, if_neg (by omega), ed2]
      dsimp only
      rw [if_pos y5]; rfl
    rw [ep]
    refine mq_o (d := d + 7) hz Y1 d23 d25 hw4 hl fw Sw (by omega) (fun h2 F2 E2 Y2 e23 => ?_)
    have el : (lOw r ++ [w]).length = (lOw r).length + 1 := by rw [List.length_append]; rfl
    have G2 : gr (fun z => z = 23) (c0 + 19 * (i + 2 - 2)) (s0 + 450 * (i + 2 - 2)) h0 h2 := ⟨by rw [F2.1]; exact G1.1, by rw [F2.1]; have := G1.2.1; omega, by rw [F2.2.1]; have := G1.2.2.1; omega, fun k hk hn => by rw [F2.2.2 k (by omega)]; exact G1.2.2.2 k hk hn⟩
    exact ml_lp h39 W0 hz hl0 (i + 2) h2 (lNo r, lNm r, lVe r, lNe r, lBr r, lOw r ++ [w]) (f - 1) (by show (lNe r).length + (lBr r).length + (lOw r ++ [w]).length + (f - 1) = 13; rw [el]; omega) (by omega) (by omega) G2 (by rw [F2.1]; omega) e23 Y2 _ _ _ _
  refine rt_k (k := 2) (pc' := 166) (L' := [some (.ref 23), some (.ref a), some (.ref ka), x3, x4, x5]) (st' := [.retAddr 0, .ref ka]) (h' := h1) (fun _ => by first | rfl | (cases x3 <;> rfl) | (cases x4 <;> rfl) | (cases x5 <;> rfl)) ?_
  refine rt_cvE rfl (by decide) kc1 rfl rfl rfl rfl (ce_0 S1) ?_
  refine rt_k (k := 1) (pc' := 170) (L' := [some (.ref 23), some (.ref a), some (.ref ka), some (.int (tB (k = tx 0))), x4, x5]) (st' := []) (h' := h1) (fun _ => by first | rfl | (cases x3 <;> rfl) | (cases x4 <;> rfl) | (cases x5 <;> rfl)) ?_
  -- the name, the range
  have rng : ∀ nd0 : Bool, (nd0 = true → k = tx 0 ∧ (lNe r).length < 6) → (nd0 = false → k = tx 1 ∧ (lBr r).length < 3) → rt_ X (d + 8) 131 207 [some (.ref 23), some (.ref a), some (.ref ka), some (.int (bI nd0)), x4, x5] [] h1 (mlP h0 tl ws c0 s0 l a nd nr bk br ow o ((pCl f (k :: ws.drop (i + 1)) (lNe r) (lBr r) (lOw r)).map (fun q => (lNo r, lNm r, lVe r, q.1, q.2.1, q.2.2)))) := fun nd0 ht hff => by
    have hbad : (∀ w us, ws.drop (i + 1) = w :: us → isNm w = true → pRng us = none) → pCl f (k :: ws.drop (i + 1)) (lNe r) (lBr r) (lOw r) = none := fun q => pCl_none hf a2 (fun _ => Or.inr q) (fun _ => Or.inr q) (fun e => absurd e z2)
    by_cases hl : i + 1 < ws.length
    rotate_left
    · have t0 := trivial
      refine rt_k (k := 1) (pc' := 208) (L' := [some (.ref 23), some (.ref a), some (.ref ka), some (.int (bI nd0)), x4, x5]) (st' := [.ref 23]) (h' := h1) (fun _ => by first | rfl | (cases x4 <;> rfl) | (cases x5 <;> rfl)) ?_
      refine rt_cvE rfl (by decide) d23 rfl rfl rfl rfl (m_here0 d23 hw4 (by omega)) ?_
      refine rt_cE rfl rfl m_isName0 ?_
      refine rt_pn rfl (fun z => absurd z ((by decide))) (fun _ => ?_)
      refine rt_k (k := 1) (pc' := 218) (L' := [some (.ref 23), some (.ref a), some (.ref ka), some (.int (bI nd0)), x4, x5]) (st' := [.null]) (h' := h1) (fun _ => by first | rfl | (cases x4 <;> rfl) | (cases x5 <;> rfl)) ?_
      exact rt_r (v := some (.null)) rfl rfl (nul (hbad (fun w us e => by rw [List.drop_of_length_le (by omega)] at e; cases e)) h1 g0 ⟨_, d23⟩)
    obtain ⟨w, hw⟩ := gt_ex hl
    obtain ⟨wa, fw, Sw⟩ := HF1 (i + 1) w hw
    have ed2 := drop_c hw
    refine rt_k (k := 1) (pc' := 208) (L' := [some (.ref 23), some (.ref a), some (.ref ka), some (.int (bI nd0)), x4, x5]) (st' := [.ref 23]) (h' := h1) (fun _ => by first | rfl | (cases x4 <;> rfl) | (cases x5 <;> rfl)) ?_
    refine rt_cvE rfl (by decide) d23 rfl rfl rfl rfl (m_here1 d23 d25 hw4 hl fw) ?_
    refine rt_cE rfl rfl (m_isName Sw) ?_
    refine rt_pn rfl (fun y5 => ?_) (fun y5 => ?_)
    rotate_left
    ·
      refine rt_k (k := 1) (pc' := 218) (L' := [some (.ref 23), some (.ref a), some (.ref ka), some (.int (bI nd0)), x4, x5]) (st' := [.null]) (h' := h1) (fun _ => by first | rfl | (cases x4 <;> rfl) | (cases x5 <;> rfl)) ?_
      exact rt_r (v := some (.null)) rfl rfl (nul (hbad (fun w us e q => by rw [ed2] at e; cases e; exact absurd q y5)) h1 g0 ⟨_, d23⟩)
    refine rt_k (k := 1) (pc' := 220) (L' := [some (.ref 23), some (.ref a), some (.ref ka), some (.int (bI nd0)), x4, x5]) (st' := [.ref 23]) (h' := h1) (fun _ => by first | rfl | (cases x4 <;> rfl) | (cases x5 <;> rfl)) ?_
    refine rt_cvE rfl (by decide) d23 rfl rfl rfl rfl (m_here1 d23 d25 hw4 hl fw) ?_
    refine rt_k (k := 3) (pc' := 227) (L' := [some (.ref 23), some (.ref a), some (.ref ka), some (.int (bI nd0)), some (.ref wa), x5]) (st' := [.ref 23, .ref 23]) (h' := h1) (fun _ => by first | rfl | (cases x4 <;> rfl) | (cases x5 <;> rfl)) ?_
    refine rt_gf rfl d23 rfl rfl ?_
    refine rt_k (k := 1) (pc' := 231) (L' := [some (.ref 23), some (.ref a), some (.ref ka), some (.int (bI nd0)), some (.ref wa), x5]) (st' := [.int (nI 1), .int (nI (i + 1)), .ref 23]) (h' := h1) (fun _ => by first | rfl | (cases x4 <;> rfl) | (cases x5 <;> rfl)) ?_
    refine rt_add rfl ?_
    refine rt_pf rfl d23 ⟨rfl, (show 4 < 24 by decide), rfl⟩ ?_
    refine rt_nm (fun h_8 e_9 => ?_)
    have f_10 : fr_ (fun z => z = 23) h1 h_8 := by rw [e_9]; exact fr_set (e' := .inr (12, [.ref 24, .int tl, .ref 25, .int (nI ws.length), .int (nI (i + 1 + 1)), .ref 26, .int (o 0), .int (o 1), .ref 27, .ref 28, .int (o 2), .ref 29, .int (o 3), .int (o 4), .ref 30, .ref 31, .int (o 5), .ref 32, .int (o 6), .ref 33, .ref 34, .int (o 7), .int (o 8), .ref 35])) d23 (by rfl) (by first | decide | simp)
    have n_11 : h_8.length = h1.length := by rw [e_9]; simp
    have c_12 : h_8[23]? = some (.inr (12, [.ref 24, .int tl, .ref 25, .int (nI ws.length), .int (nI (i + 1 + 1)), .ref 26, .int (o 0), .int (o 1), .ref 27, .ref 28, .int (o 2), .ref 29, .int (o 3), .int (o 4), .ref 30, .ref 31, .int (o 5), .ref 32, .int (o 6), .ref 33, .ref 34, .int (o 7), .int (o 8), .ref 35])) := by rw [e_9]; exact hs_self d23
    refine rt_k (k := 1) (pc' := 236) (L' := [some (.ref 23), some (.ref a), some (.ref ka), some (.int (bI nd0)), some (.ref wa), x5]) (st' := [.ref 23]) (h' := h_8) (fun _ => by first | rfl | (cases x4 <;> rfl) | (cases x5 <;> rfl)) ?_
    have F2 := f_10
    have e23 := c_12
    have E2 : ex_ h1 h_8 := fr_ex F2 (fun k q => by unfold zz at q; omega)
    have G2 : gr (fun z => z = 23) (c0 + 19 * (i - 2)) (s0 + 450 * (i - 2)) h0 h_8 := gr_mo (gr_tr G1 (gr_fr F2)) (fun _ q => q) (by omega) (by omega)
    have Y2 := Y1.ew (ew_ex E2) (fun k hk => F2.2.2 k (by rcases hk with e | e | e | e | e | e <;> omega))
    have Sw2 := Sw.ex E2
    have l2 : h_8.length = h1.length := F2.1
    generalize h_8 = h2 at *
    have W2 := W0.g G2
    refine rt_cv rfl (by decide) e23 rfl rfl rfl rfl (m_range (by omega) W2 (show i + 2 ≤ ws.length by omega) e23) ?_
    rintro _ h3 (⟨R, us, i', ra, e1, e2, e3, e4, rfl, e6, g3, B3, f23⟩ | ⟨e1, rfl, g3, p', f23⟩)
    ·
      have E3 : ex_ h2 h3 := gr_ex g3 (fun k q => by unfold zz at q; omega)
      have Y3 := Y2.ew (ew_ex E3) (fun k hk => g3.2.2.2 k (by rcases hk with e | e | e | e | e | e <;> omega) (by rcases hk with e | e | e | e | e | e <;> omega))
      have G3 : gr (fun z => z = 23) (c0 + 19 * (i' - 2)) (s0 + 450 * (i' - 2)) h0 h3 := gr_mo (gr_tr G2 g3) (fun _ q => q) (by omega) (by omega)
      have B3' : yR l h3 ra R := B3.mo (by omega)
      have Sw3 := Sw2.ex E3
      have l3 := g3.1
      have ep : (nd0 = true → pCl f (k :: ws.drop (i + 1)) (lNe r) (lBr r) (lOw r) = pCl (f - 1) (ws.drop i') (lNe r ++ [(w, R)]) (lBr r) (lOw r)) ∧ (nd0 = false → pCl f (k :: ws.drop (i + 1)) (lNe r) (lBr r) (lOw r) = pCl (f - 1) (ws.drop i') (lNe r) (lBr r ++ [(w, R)]) (lOw r)) := by
        have hf1 : 1 ≤ f := by
          cases nd0 with
          | true => have := (ht rfl).2; omega
          | false => have := (hff rfl).2; omega
        obtain ⟨f, rfl⟩ : ∃ f', f = f' + 1 := ⟨f - 1, by omega⟩
        refine ⟨fun q => ?_, fun q => ?_⟩
        · obtain ⟨q1, q2⟩ := ht q
          rw [pCl_c, if_pos q1, if_neg (by omega), ed2]
          dsimp only
          rw [if_pos y5, e1, e2]; rfl
        · obtain ⟨q1, q2⟩ := hff q
          have n0 : ¬ k = tx 0 := fun q => by rw [q] at q1; exact absurd q1 (by decide)
          rw [pCl_c, if_neg n0, if_pos q1, if_neg (by omega), ed2]
          dsimp only
          rw [if_pos y5, e1, e2]; rfl
      cases nd0 with
      | true =>
        obtain ⟨u1, u2⟩ := ht rfl
        rw [ep.1 rfl]
        refine rt_k (k := 5) (pc' := 252) (L' := [some (.ref 23), some (.ref a), some (.ref ka), some (.int (nI 1)), some (.ref wa), some (.ref ra)]) (st' := []) (h' := h3) (fun _ => by first | rfl | (cases x5 <;> rfl)) ?_
        refine mq_n hz Y3 Sw3 B3' u2 (fun h4 F4 E4 Y4 => ?_)
        have el : (lNe r ++ [(w, R)]).length = (lNe r).length + 1 := by rw [List.length_append]; rfl
        have G4 : gr (fun z => z = 23) (c0 + 19 * (i' - 2)) (s0 + 450 * (i' - 2)) h0 h4 := ⟨by rw [F4.1]; exact G3.1, by rw [F4.1]; have := G3.2.1; omega, by rw [F4.2.1]; have := G3.2.2.1; omega, fun k hk hn => by rw [F4.2.2 k (by omega)]; exact G3.2.2.2 k hk hn⟩
        have g23 : h4[23]? = some (mo tl (nI ws.length) (nI i') o) := fr_at F4 (by omega) f23
        refine rt_k (k := 1) (pc' := 72) (L' := [some (.ref 23), some (.ref a), some (.ref ka), some (.int (nI 1)), some (.ref wa), some (.ref ra)]) (st' := []) (h' := h4) (fun _ => rfl) ?_
        exact ml_lp h39 W0 hz hl0 i' h4 (lNo r, lNm r, lVe r, lNe r ++ [(w, R)], lBr r, lOw r) (f - 1) (by show (lNe r ++ [(w, R)]).length + (lBr r).length + (lOw r).length + (f - 1) = 13; rw [el]; omega) (by omega) e4 G4 (by rw [F4.1]; omega) g23 Y4 _ _ _ _
      | false =>
        obtain ⟨u1, u2⟩ := hff rfl
        rw [ep.2 rfl]
        refine rt_k (k := 5) (pc' := 287) (L' := [some (.ref 23), some (.ref a), some (.ref ka), some (.int (nI 0)), some (.ref wa), some (.ref ra)]) (st' := []) (h' := h3) (fun _ => by first | rfl | (cases x5 <;> rfl)) ?_
        refine mq_b hz Y3 Sw3 B3' u2 (fun h4 F4 E4 Y4 => ?_)
        have el : (lBr r ++ [(w, R)]).length = (lBr r).length + 1 := by rw [List.length_append]; rfl
        have G4 : gr (fun z => z = 23) (c0 + 19 * (i' - 2)) (s0 + 450 * (i' - 2)) h0 h4 := ⟨by rw [F4.1]; exact G3.1, by rw [F4.1]; have := G3.2.1; omega, by rw [F4.2.1]; have := G3.2.2.1; omega, fun k hk hn => by rw [F4.2.2 k (by omega)]; exact G3.2.2.2 k hk hn⟩
        have g23 : h4[23]? = some (mo tl (nI ws.length) (nI i') o) := fr_at F4 (by omega) f23
        refine rt_k (k := 1) (pc' := 72) (L' := [some (.ref 23), some (.ref a), some (.ref ka), some (.int (nI 0)), some (.ref wa), some (.ref ra)]) (st' := []) (h' := h4) (fun _ => rfl) ?_
        exact ml_lp h39 W0 hz hl0 i' h4 (lNo r, lNm r, lVe r, lNe r, lBr r ++ [(w, R)], lOw r) (f - 1) (by show (lNe r).length + (lBr r ++ [(w, R)]).length + (lOw r).length + (f - 1) = 13; rw [el]; omega) (by omega) e4 G4 (by rw [F4.1]; omega) g23 Y4 _ _ _ _
    refine rt_k (k := 4) (pc' := 247) (L' := [some (.ref 23), some (.ref a), some (.ref ka), some (.int (bI nd0)), some (.ref wa), some (.null)]) (st' := [.null]) (h' := h3) (fun _ => by first | rfl | (cases x5 <;> rfl)) ?_
    exact rt_r (v := some (.null)) rfl rfl (nul (hbad (fun w us e q => by rw [ed2] at e; cases e; exact e1)) h3 (gr_mo (gr_tr G2 g3) (fun _ q => q) (by omega) (by omega)) ⟨_, f23⟩)
  by_cases k0 : k = tx 0
  · rw [tB_t k0]
    refine rt_k (k := 5) (pc' := 188) (L' := [some (.ref 23), some (.ref a), some (.ref ka), some (.int (nI 1)), x4, x5]) (st' := [.ref a]) (h' := h1) (fun _ => by first | rfl | (cases x4 <;> rfl) | (cases x5 <;> rfl)) ?_
    refine rt_gf rfl q1 rfl rfl ?_
    refine rt_k (k := 1) (pc' := 193) (L' := [some (.ref 23), some (.ref a), some (.ref ka), some (.int (nI 1)), x4, x5]) (st' := [.int (nI 6), .int (nI ((lNe r).length))]) (h' := h1) (fun _ => by first | rfl | (cases x4 <;> rfl) | (cases x5 <;> rfl)) ?_
    refine rt_ine rfl (by omega) (by decide) (fun y6 => ?_) (fun y6 => ?_)
    ·
      exact rng true (fun _ => ⟨k0, by omega⟩) (fun q => by cases q)
    refine rt_k (k := 2) (pc' := 218) (L' := [some (.ref 23), some (.ref a), some (.ref ka), some (.int (nI 1)), x4, x5]) (st' := [.null]) (h' := h1) (fun _ => by first | rfl | (cases x4 <;> rfl) | (cases x5 <;> rfl)) ?_
    exact rt_r (v := some (.null)) rfl rfl (nul (pCl_none hf a2 (fun _ => Or.inl y6) (fun q => by rw [k0] at q; exact absurd q (by decide)) (fun e => absurd e z2)) h1 g0 ⟨_, d23⟩)
  · rw [tB_f k0]
    refine rt_k (k := 4) (pc' := 177) (L' := [some (.ref 23), some (.ref a), some (.ref ka), some (.int (nI 0)), x4, x5]) (st' := [.retAddr 1, .ref ka]) (h' := h1) (fun _ => by first | rfl | (cases x4 <;> rfl) | (cases x5 <;> rfl)) ?_
    refine rt_cvE rfl (by decide) kc1 rfl rfl rfl rfl (ce_1 S1) ?_
    refine rt_pe rfl (fun y6 => ?_) (fun y6 => ?_)
    ·
      refine rt_k (k := 1) (pc' := 218) (L' := [some (.ref 23), some (.ref a), some (.ref ka), some (.int (nI 0)), x4, x5]) (st' := [.null]) (h' := h1) (fun _ => by first | rfl | (cases x4 <;> rfl) | (cases x5 <;> rfl)) ?_
      exact rt_r (v := some (.null)) rfl rfl (nul (pCl_none hf a2 (fun e => absurd e k0) (fun e => absurd e y6) (fun e => absurd e z2)) h1 g0 ⟨_, d23⟩)
    refine rt_k (k := 3) (pc' := 200) (L' := [some (.ref 23), some (.ref a), some (.ref ka), some (.int (nI 0)), x4, x5]) (st' := [.ref a]) (h' := h1) (fun _ => by first | rfl | (cases x4 <;> rfl) | (cases x5 <;> rfl)) ?_
    refine rt_gf rfl q1 rfl rfl ?_
    refine rt_k (k := 1) (pc' := 204) (L' := [some (.ref 23), some (.ref a), some (.ref ka), some (.int (nI 0)), x4, x5]) (st' := [.int (nI 3), .int (nI ((lBr r).length))]) (h' := h1) (fun _ => by first | rfl | (cases x4 <;> rfl) | (cases x5 <;> rfl)) ?_
    refine rt_ieq rfl (by omega) (by decide) (fun y7 => ?_) (fun y7 => ?_)
    ·
      refine rt_k (k := 1) (pc' := 218) (L' := [some (.ref 23), some (.ref a), some (.ref ka), some (.int (nI 0)), x4, x5]) (st' := [.null]) (h' := h1) (fun _ => by first | rfl | (cases x4 <;> rfl) | (cases x5 <;> rfl)) ?_
      exact rt_r (v := some (.null)) rfl rfl (nul (pCl_none hf a2 (fun e => absurd e k0) (fun _ => Or.inl y7) (fun e => absurd e z2)) h1 g0 ⟨_, d23⟩)
    exact rng false (fun q => by cases q) (fun _ => ⟨y6, by omega⟩)
termination_by ws.length - i
end MR

