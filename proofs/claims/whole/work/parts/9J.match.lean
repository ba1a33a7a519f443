/-! THE KEEPER'S CALLS, 6: match, owner, unwant. -/
section KH
variable {X : Nat × (Nat → Int32)} {d : Nat} {h : List va_E} {Q : Option Value → List va_E → Prop} {T : List Nat} {I : List kL} {nx : Nat} {D : kD} {K : List kG} {made : Nat} {st : kS}
def mtP (ws : List kW) (v : Option Value) : Prop := (∃ a us u R, ws = a :: us ∧ pVer a = some u ∧ pRng us = some (R, []) ∧ v = some (.int (tB (rP u R)))) ∨ ((¬ ∃ a us u R, ws = a :: us ∧ pVer a = some u ∧ pRng us = some (R, [])) ∧ v = some (.int (-6)))
theorem kp_match (C : kKp h T I nx D K made st) : rt_ X (d + 8) 121 0 [some (.ref 0), none, none] [] h (fun v h' => gr tA 85 351 h h' ∧ kKp h' [] I nx D K made st ∧ mtP (wl T) v) := by
  obtain ⟨l39, K0, ⟨P, f0, b0, p0, c0, hp0⟩, -⟩ := id C
  refine rt_k (k := 1) (pc' := 1) (L' := [some (.ref 0), none, none]) (st' := [.ref 0]) (h' := h) (fun _ => rfl) ?_
  refine rt_gf rfl K0 rfl rfl ?_
  refine rt_cv rfl (by decide) c0 rfl rfl rfl rfl (rd_open2 C.2.2.1) ?_
  rintro _ h1 ⟨rfl, F1, f1, b1, p1, C1, W1⟩
  have K1 : pk0 h1 := fr_at F1 (by decide) K0
  have c1 := C1.2.1
  have l1 : h1.length = h.length := F1.1
  refine rt_k (k := 1) (pc' := 8) (L' := [some (.ref 0), none, none]) (st' := [.ref 0]) (h' := h1) (fun _ => rfl) ?_
  refine rt_gf rfl K1 rfl rfl ?_
  refine rt_cv rfl (by decide) c1 rfl rfl rfl rfl (rd_version (by omega) C1) ?_
  rintro v h2 ⟨g2, (⟨u, a, q1, rfl, q3, q4, f2, b2, p2, C2, W2⟩ | ⟨q1, rfl, B2⟩)⟩
  rotate_left
  · have K2 := K1.g g2 (by decide)
    have no : ¬ ∃ a us u R, wl T = a :: us ∧ pVer a = some u ∧ pRng us = some (R, []) := by
      rintro ⟨a, us, u, R, e, e1, -⟩
      rw [e] at W1
      obtain ⟨w1, -⟩ := rW_w W1
      rw [w1, q1] at e1; cases e1
    refine rt_k (k := 7) (pc' := 32) (L' := [some (.ref 0), some (.null), some (.null)]) (st' := [.ref 0]) (h' := h2) (fun _ => rfl) ?_
    refine rt_cv rfl (by decide) K2 rfl rfl rfl rfl (kp_finB K2 B2) ?_
    rintro _ h3 ⟨x, rfl, F3, T3⟩
    have g3 := gr_mo (gr_fin (gr_op F1 g2) F3) (fun _ q => q) (show 2 ≤ 85 by omega) (show 8 ≤ 351 by omega)
    refine rt_pe rfl (fun z => ?_) (fun z => ?_)
    ·
      refine rt_k (k := 1) (pc' := 48) (L' := [some (.ref 0), some (.null), some (.null)]) (st' := [.int (-6)]) (h' := h3) (fun _ => rfl) ?_
      exact rt_r (v := some (.int (-6))) rfl rfl (⟨g3, C.rd g3 T3, Or.inr ⟨no, rfl⟩⟩)
    refine rt_k (k := 3) (pc' := 48) (L' := [some (.ref 0), some (.null), some (.null)]) (st' := [.int (-6)]) (h' := h3) (fun _ => rfl) ?_
    exact rt_r (v := some (.int (-6))) rfl rfl (⟨g3, C.rd g3 T3, Or.inr ⟨no, rfl⟩⟩)
  have hws : wl T = sl T f1 b1 :: wl (T.drop b1) := by
    rcases W1 with ⟨e1, e2, e3⟩ | ⟨ws', e1, -, -, e4, -⟩
    · rw [sl_nil (by omega), pVer_nil] at q1; cases q1
    · rw [e1, e4]
  have K2 := K1.g g2 (by decide)
  have c2 := C2.2.1
  have l2 := g2.1
  refine rt_k (k := 4) (pc' := 24) (L' := [some (.ref 0), some (.ref a), none]) (st' := [.ref 0]) (h' := h2) (fun _ => rfl) ?_
  refine rt_gf rfl K2 rfl rfl ?_
  refine rt_cv rfl (by decide) c2 rfl rfl rfl rfl (rd_range (by omega) C2 W2) ?_
  rintro v h3 ⟨g3, (⟨R, us', ra, r1, rfl, r3', r4, r5⟩ | ⟨r1, rfl, B3⟩)⟩
  rotate_left
  · have K3 := K2.g g3 (by decide)
    have no : ¬ ∃ a us u R, wl T = a :: us ∧ pVer a = some u ∧ pRng us = some (R, []) := by
      rintro ⟨x, us, y, R, e, -, e1⟩
      rw [hws] at e
      injection e with e2 e3
      rw [← e3, r1] at e1; cases e1
    refine rt_k (k := 2) (pc' := 32) (L' := [some (.ref 0), some (.ref a), some (.null)]) (st' := [.ref 0]) (h' := h3) (fun _ => rfl) ?_
    refine rt_cv rfl (by decide) K3 rfl rfl rfl rfl (kp_finB K3 B3) ?_
    rintro _ h4 ⟨x, rfl, F4, T4⟩
    have g4 := gr_fin (gr_op F1 (gr_mo (gr_tr g2 g3) (fun _ q => q) (show 2 + 83 ≤ 85 by omega) (show 8 + 343 ≤ 351 by omega))) F4
    refine rt_pe rfl (fun z => ?_) (fun z => ?_)
    ·
      refine rt_k (k := 1) (pc' := 48) (L' := [some (.ref 0), some (.ref a), some (.null)]) (st' := [.int (-6)]) (h' := h4) (fun _ => rfl) ?_
      exact rt_r (v := some (.int (-6))) rfl rfl (⟨g4, C.rd g4 T4, Or.inr ⟨no, rfl⟩⟩)
    refine rt_k (k := 5) (pc' := 48) (L' := [some (.ref 0), some (.ref a), some (.null)]) (st' := [.int (-6)]) (h' := h4) (fun _ => rfl) ?_
    exact rt_r (v := some (.int (-6))) rfl rfl (⟨g4, C.rd g4 T4, Or.inr ⟨no, rfl⟩⟩)
  have K3 := K2.g g3 (by decide)
  refine rt_k (k := 2) (pc' := 32) (L' := [some (.ref 0), some (.ref a), some (.ref ra)]) (st' := [.ref 0]) (h' := h3) (fun _ => rfl) ?_
  refine rt_cv rfl (by decide) K3 rfl rfl rfl rfl (kp_fin K3 r5) ?_
  rintro _ h4 ⟨rfl, F4, T4⟩
  have g4 := gr_fin (gr_op F1 (gr_mo (gr_tr g2 g3) (fun _ q => q) (show 2 + 83 ≤ 85 by omega) (show 8 + 343 ≤ 351 by omega))) F4
  refine rt_pe rfl (fun z => ?_) (fun z => ?_)
  ·
    refine rt_k (k := 1) (pc' := 48) (L' := [some (.ref 0), some (.ref a), some (.ref ra)]) (st' := [.int (-6)]) (h' := h4) (fun _ => rfl) ?_
    exact rt_r (v := some (.int (-6))) rfl rfl (⟨g4, C.rd g4 T4, Or.inr ⟨by rintro ⟨x, us, y, R', e, -, e1⟩; rw [hws] at e; injection e with e2 e3; rw [← e3, r1] at e1; cases e1; exact z rfl, rfl⟩⟩)
  have E4 := fr_ex F4 (by intro k q; unfold zz at q; omega)
  have zu := (q4.ex (gr_ex g3 r3_zz)).ex E4
  have zr := r4.ex E4
  obtain ⟨tt, sz, F', S', ⟨-, cr⟩, -⟩ := id zr
  subst z
  refine rt_k (k := 6) (pc' := 51) (L' := [some (.ref 0), some (.ref a), some (.ref ra)]) (st' := [.ref a, .ref ra]) (h' := h4) (fun _ => rfl) ?_
  refine rt_cvE rfl (by decide) cr rfl rfl rfl rfl (rng_has zr zu) ?_
  refine rt_pe rfl (fun z2 => ?_) (fun z2 => ?_)
  ·
    refine rt_k (k := 1) (pc' := 62) (L' := [some (.ref 0), some (.ref a), some (.ref ra)]) (st' := [.int (nI 0)]) (h' := h4) (fun _ => rfl) ?_
    exact rt_r (v := some (.int (nI 0))) rfl rfl (⟨g4, C.rd g4 T4, Or.inl ⟨_, _, u, R, hws, q1, r1, ret0 z2⟩⟩)
  refine rt_k (k := 2) (pc' := 62) (L' := [some (.ref 0), some (.ref a), some (.ref ra)]) (st' := [.int (nI 1)]) (h' := h4) (fun _ => rfl) ?_
  exact rt_r (v := some (.int (nI 1))) rfl rfl (⟨g4, C.rd g4 T4, Or.inl ⟨_, _, u, R, hws, q1, r1, ret1 z2⟩⟩)
/-- whom a path belongs to -/
def owQ (g : kG) (w : kW) (v : Option Value) : Prop := (∃ (j : Nat) (e : kL × Nat), g[j]? = some e ∧ (∃ x ∈ lOw e.1, ∀ k, k < 3 → ptI x k = ptI w k) ∧ (∀ (l : Nat) e', l < j → g[l]? = some e' → ¬ ∃ x ∈ lOw e'.1, ∀ k, k < 3 → ptI x k = ptI w k) ∧ v = some (.int (nI (lNo e.1)))) ∨ ((∀ e ∈ g, ¬ ∃ x ∈ lOw e.1, ∀ k, k < 3 → ptI x k = ptI w k) ∧ v = some (.int (-2)))
theorem own_lp {a pa : Nat} {g : kG} {w : kW} (Z : zG h a g) (P : pA h pa w) (i : Nat) (hi : i ≤ g.length) (H : ∀ (l : Nat) e', l < i → g[l]? = some e' → ¬ ∃ x ∈ lOw e'.1, ∀ k, k < 3 → ptI x k = ptI w k) : rt_ X (d + 1) 119 39 [some (.ref 0), some (.ref pa), some (.ref a), some (.int (nI i))] [] h (fun v h' => h' = h ∧ owQ g w v) := by
  obtain ⟨od, ci, F, S, ⟨-, c1⟩, ⟨-, c2⟩, ⟨-, c3⟩, hn, HG⟩ := id Z
  obtain ⟨fp, p1, p2⟩ := id P
  refine rt_k (k := 2) (pc' := 41) (L' := [some (.ref 0), some (.ref pa), some (.ref a), some (.int (nI i))]) (st' := [.ref a, .int (nI i)]) (h' := h) (fun _ => rfl) ?_
  refine rt_cvE (v := some (.int (nI g.length))) (h' := h) rfl (by decide) c1 rfl rfl rfl rfl ?_ ?_
  · refine rt_k (k := 1) (pc' := 1) (L' := [some (.ref a)]) (st' := [.ref a]) (h' := h) (fun _ => rfl) ?_
    refine rt_gf rfl c1 rfl rfl ?_
    exact rt_r (v := some (.int (nI g.length))) rfl rfl ⟨rfl, rfl⟩
  refine rt_ige rfl (by omega) (by omega) (fun z => ?_) (fun z => ?_)
  ·
    refine rt_k (k := 1) (pc' := 77) (L' := [some (.ref 0), some (.ref pa), some (.ref a), some (.int (nI i))]) (st' := [.int (-2)]) (h' := h) (fun _ => rfl) ?_
    exact rt_r (v := some (.int (-2))) rfl rfl (⟨rfl, Or.inr ⟨fun e he => by obtain ⟨j, hj⟩ := gt_mem he; exact H j e (by have := gt_lt hj; omega) hj, rfl⟩⟩)
  obtain ⟨e, he⟩ := gt_ex z
  obtain ⟨-, b, fb, zb⟩ := HG i e he
  obtain ⟨v, nd, bk, ps, cb, -⟩ := zb.at
  have eo : oP e.1 fp 0 ↔ ∃ x ∈ lOw e.1, ∀ k, k < 3 → ptI x k = ptI w k := by
    unfold oP
    refine exists_congr fun x => and_congr Iff.rfl (forall_congr' fun k => forall_congr' fun hk => ?_)
    rw [Nat.zero_add, p2 k hk]
  refine rt_k (k := 2) (pc' := 49) (L' := [some (.ref 0), some (.ref pa), some (.ref a), some (.int (nI i))]) (st' := [.int (nI i), .ref a]) (h' := h) (fun _ => rfl) ?_
  refine rt_cvE (v := some (.ref b)) (h' := h) rfl (by decide) c1 rfl rfl rfl rfl ?_ ?_
  · refine rt_k (k := 1) (pc' := 1) (L' := [some (.ref a), some (.int (nI i))]) (st' := [.ref a]) (h' := h) (fun _ => rfl) ?_
    refine rt_gf rfl c1 rfl rfl ?_
    refine rt_k (k := 1) (pc' := 5) (L' := [some (.ref a), some (.int (nI i))]) (st' := [.int (nI i), .ref od]) (h' := h) (fun _ => rfl) ?_
    refine rt_aalN rfl c2 rfl (by omega) (by omega) fb ?_
    exact rt_r (v := some (.ref b)) rfl rfl ⟨rfl, rfl⟩
  refine rt_k (k := 2) (pc' := 54) (L' := [some (.ref 0), some (.ref pa), some (.ref a), some (.int (nI i))]) (st' := [.int (nI 0), .ref pa, .ref b]) (h' := h) (fun _ => rfl) ?_
  refine rt_cvE rfl (by decide) cb rfl rfl rfl rfl (rel_owns zb p1 (o := 0) (by decide) (by decide)) ?_
  refine rt_pe rfl (fun z2 => ?_) (fun z2 => ?_)
  rotate_left
  ·
    refine rt_k (k := 2) (pc' := 62) (L' := [some (.ref 0), some (.ref pa), some (.ref a), some (.int (nI i))]) (st' := [.int (nI i), .ref a]) (h' := h) (fun _ => rfl) ?_
    refine rt_cvE (v := some (.ref b)) (h' := h) rfl (by decide) c1 rfl rfl rfl rfl ?_ ?_
    · refine rt_k (k := 1) (pc' := 1) (L' := [some (.ref a), some (.int (nI i))]) (st' := [.ref a]) (h' := h) (fun _ => rfl) ?_
      refine rt_gf rfl c1 rfl rfl ?_
      refine rt_k (k := 1) (pc' := 5) (L' := [some (.ref a), some (.int (nI i))]) (st' := [.int (nI i), .ref od]) (h' := h) (fun _ => rfl) ?_
      refine rt_aalN rfl c2 rfl (by omega) (by omega) fb ?_
      exact rt_r (v := some (.ref b)) rfl rfl ⟨rfl, rfl⟩
    refine rt_gf rfl cb rfl rfl ?_
    exact rt_r (v := some (.int (nI (lNo e.1)))) rfl rfl (⟨rfl, Or.inl ⟨i, e, he, eo.mp z2, H, rfl⟩⟩)
  refine rt_inc (c := 1) rfl rfl ?_
  refine rt_k (k := 1) (pc' := 39) (L' := [some (.ref 0), some (.ref pa), some (.ref a), some (.int (nI (i + 1)))]) (st' := []) (h' := h) (fun _ => rfl) ?_
  exact own_lp Z P (i + 1) z (fun l e' hl he' => by
    by_cases q : l = i
    · subst q; rw [he] at he'; cases he'; exact fun y => z2 (eo.mpr y)
    · exact H l e' (by omega) he')
termination_by g.length - i
def owP (ws : List kW) (g : kG) (v : Option Value) : Prop := (∃ w, ws = [w] ∧ isPt w = true ∧ owQ g w v) ∨ ((¬ ∃ w, ws = [w] ∧ isPt w = true) ∧ v = some (.int (-6)))
theorem kp_owner {g : kG} (C : kKp h T I nx D K made st) (hg : K[K.length - 1]? = some g) : rt_ X (d + 3) 119 0 [some (.ref 0), none, none, none] [] h (fun v h' => gr tA 1 3 h h' ∧ kKp h' [] I nx D K made st ∧ owP (wl T) g v) := by
  obtain ⟨l39, K0, ⟨P, f0, b0, p0, c0, hp0⟩, -⟩ := id C
  refine rt_k (k := 1) (pc' := 1) (L' := [some (.ref 0), none, none, none]) (st' := [.ref 0]) (h' := h) (fun _ => rfl) ?_
  refine rt_gf rfl K0 rfl rfl ?_
  refine rt_cv rfl (by decide) c0 rfl rfl rfl rfl (rd_open2 C.2.2.1) ?_
  rintro _ h1 ⟨rfl, F1, f1, b1, p1, C1, W1⟩
  have K1 : pk0 h1 := fr_at F1 (by decide) K0
  have c1 := C1.2.1
  have l1 : h1.length = h.length := F1.1
  refine rt_k (k := 1) (pc' := 8) (L' := [some (.ref 0), none, none, none]) (st' := [.ref 0]) (h' := h1) (fun _ => rfl) ?_
  refine rt_gf rfl K1 rfl rfl ?_
  refine rt_cv rfl (by decide) c1 rfl rfl rfl rfl (rd_path (by omega) C1 W1) ?_
  rintro v h2 ⟨g2, (⟨w, us, pa, q1, q2, rfl, q3, q4, q5⟩ | ⟨q1, rfl, B2⟩)⟩
  rotate_left
  · have K2 := K1.g g2 (by decide)
    have no : ¬ ∃ w, wl T = [w] ∧ isPt w = true := fun ⟨w, e, e1⟩ => q1 ⟨w, [], e, e1⟩
    refine rt_k (k := 2) (pc' := 16) (L' := [some (.ref 0), some (.null), none, none]) (st' := [.ref 0]) (h' := h2) (fun _ => rfl) ?_
    refine rt_cv rfl (by decide) K2 rfl rfl rfl rfl (kp_finB K2 B2) ?_
    rintro _ h3 ⟨x, rfl, F3, T3⟩
    have g3 := gr_fin (gr_op F1 g2) F3
    refine rt_pe rfl (fun z => ?_) (fun z => ?_)
    ·
      refine rt_k (k := 1) (pc' := 28) (L' := [some (.ref 0), some (.null), none, none]) (st' := [.int (-6)]) (h' := h3) (fun _ => rfl) ?_
      exact rt_r (v := some (.int (-6))) rfl rfl (⟨g3, C.rd g3 T3, Or.inr ⟨no, rfl⟩⟩)
    refine rt_k (k := 3) (pc' := 28) (L' := [some (.ref 0), some (.null), none, none]) (st' := [.int (-6)]) (h' := h3) (fun _ => rfl) ?_
    exact rt_r (v := some (.int (-6))) rfl rfl (⟨g3, C.rd g3 T3, Or.inr ⟨no, rfl⟩⟩)
  have K2 := K1.g g2 (by decide)
  refine rt_k (k := 2) (pc' := 16) (L' := [some (.ref 0), some (.ref pa), none, none]) (st' := [.ref 0]) (h' := h2) (fun _ => rfl) ?_
  refine rt_cv rfl (by decide) K2 rfl rfl rfl rfl (kp_fin K2 q5) ?_
  rintro _ h3 ⟨rfl, F3, T3⟩
  have g3 := gr_fin (gr_op F1 g2) F3
  have C3 := C.rd g3 T3
  refine rt_pe rfl (fun z => ?_) (fun z => ?_)
  ·
    refine rt_k (k := 1) (pc' := 28) (L' := [some (.ref 0), some (.ref pa), none, none]) (st' := [.int (-6)]) (h' := h3) (fun _ => rfl) ?_
    exact rt_r (v := some (.int (-6))) rfl rfl (⟨g3, C3, Or.inr ⟨by rintro ⟨w', e, -⟩; rw [q1] at e; injection e with e2 e3; exact z e3, rfl⟩⟩)
  obtain ⟨-, K3, -, -, -, -, CH3⟩ := id C3
  obtain ⟨FH, hC3, k1, k4, hm6, HK⟩ := id CH3
  obtain ⟨SN, SC, c14, -⟩ := id hC3
  obtain ⟨a, fa, za⟩ := HK _ g hg
  have P3 : pA h3 pa w := by
    obtain ⟨fp, u1, u2⟩ := q4
    exact ⟨fp, fr_at F3 (by omega) u1, u2⟩
  refine rt_k (k := 3) (pc' := 30) (L' := [some (.ref 0), some (.ref pa), none, none]) (st' := [.ref 0]) (h' := h3) (fun _ => rfl) ?_
  refine rt_gf rfl K3 rfl rfl ?_
  refine rt_cvE rfl (by decide) c14 rfl rfl rfl rfl (his_top hC3 k1 k4 fa) ?_
  refine rt_k (k := 3) (pc' := 39) (L' := [some (.ref 0), some (.ref pa), some (.ref a), some (.int (nI 0))]) (st' := []) (h' := h3) (fun _ => rfl) ?_
  refine rt_w (own_lp (d := d + 2) za P3 0 (Nat.zero_le _) (fun l e hl => absurd hl (Nat.not_lt_zero _))) ?_
  rintro v h4 ⟨rfl, r⟩
  exact ⟨g3, C3, Or.inl ⟨w, by rw [q1, z], q2, r⟩⟩
end KH

