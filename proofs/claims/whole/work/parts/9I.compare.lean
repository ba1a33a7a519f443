/-! THE KEEPER'S CALLS, 5: those that read the tape. -/
section KG
variable {X : Nat × (Nat → Int32)} {d : Nat} {h : List va_E} {Q : Option Value → List va_E → Prop} {T : List Nat} {I : List kL} {nx : Nat} {D : kD} {K : List kG} {made : Nat} {st : kS}
/-- the keeper: its tape, index, roots, solver, history -/
def kKp (h : List va_E) (T : List Nat) (I : List kL) (nx : Nat) (D : kD) (K : List kG) (made : Nat) (st : kS) : Prop := 39 ≤ h.length ∧ pk0 h ∧ cT h T ∧ cI h I nx ∧ cR h D ∧ cSo h I D ∧ cH h K made st
theorem kKp.rd {h' : List va_E} {T' : List Nat} {c s : Nat} (C : kKp h T I nx D K made st) (G : gr tA c s h h') (T9 : cT h' T') : kKp h' T' I nx D K made st := by
  obtain ⟨l, k0, -, CI, CR, CS, CH⟩ := C
  have e : ∀ k, k < 39 → ¬ tA k → h'[k]? = h[k]? := fun k hk hn => G.2.2.2 k (by omega) hn
  have E := gr_ex G tA_zz
  exact ⟨Nat.le_trans l G.1, (e 0 (by omega) (by unfold tA; omega)).trans k0, T9, CI.fr (A := fun _ => True) E (e 4 (by omega) (by unfold tA; omega)) (e 5 (by omega) (by unfold tA; omega)), CR.fr (ey_ex E) (e 6 (by omega) (by unfold tA; omega)) (e 7 (by omega) (by unfold tA; omega)) (e 8 (by omega) (by unfold tA; omega)), CS.fm (e 4 (by omega) (by unfold tA; omega)) (fun k hk => e k (by unfold sB at hk; omega) (by unfold sB at hk; unfold tA; omega)), CH.fm (A := fun _ => True) (fun k hk => e k (by unfold hA at hk; omega) (by unfold hA at hk; unfold tA; omega)) E⟩
theorem r3_tA : ∀ k, r3 k → tA k := fun k q => Or.inr (Or.inr q)
/-- what a read of the tape leaves: the tape is empty -/
theorem gr_fin {h1 h2 : List va_E} {c s : Nat} (g : gr r3 c s h h1) (F : fr_ (fun z => z = 1) h1 h2) : gr tA c s h h2 := gr_mo (gr_tr (gr_mo g r3_tA (Nat.le_refl _) (Nat.le_refl _)) (gr_mo (gr_fr F) (fun k q => Or.inl q) (Nat.le_refl _) (Nat.le_refl _))) (fun _ q => q) (by omega) (by omega)
theorem gr_op {h1 h2 : List va_E} {c s : Nat} (F : fr_ r3 h h1) (g : gr r3 c s h1 h2) : gr r3 c s h h2 := gr_mo (gr_tr (gr_fr F) g) (fun _ q => q) (by omega) (by omega)
theorem pk0.g {h' : List va_E} {A : Nat → Prop} {c s : Nat} (K0 : pk0 h) (G : gr A c s h h') (ha : ¬ A 0) : pk0 h' := gr_at G K0 ha
def cmP (ws : List kW) (v : Option Value) : Prop := (∃ a b u w, ws = [a, b] ∧ pVer a = some u ∧ pVer b = some w ∧ v = some (.int (vc u w))) ∨ ((¬ ∃ a b, ws = [a, b] ∧ (pVer a).isSome = true ∧ (pVer b).isSome = true) ∧ v = some (.int (-6)))
theorem kp_compare (C : kKp h T I nx D K made st) : rt_ X (d + 5) 120 0 [some (.ref 0), none, none] [] h (fun v h' => gr tA 4 16 h h' ∧ kKp h' [] I nx D K made st ∧ cmP (wl T) v) := by
  obtain ⟨l39, K0, ⟨P, f0, b0, p0, c0, hp0⟩, -⟩ := id C
  refine rt_k (k := 1) (pc' := 1) (L' := [some (.ref 0), none, none]) (st' := [.ref 0]) (h' := h) (fun _ => rfl) ?_
  refine rt_gf rfl K0 rfl rfl ?_
  refine rt_cv rfl (by decide) c0 rfl rfl rfl rfl (rd_open2 C.2.2.1) ?_
  rintro _ h1 ⟨rfl, F1, f1, b1, p1, C1, W1⟩
  have K1 : pk0 h1 := fr_at F1 (by decide) K0
  have c1 := C1.2.1
  have l1 : h1.length = h.length := F1.1
  refine rt_k (k := 1) (pc' := 8) (L' := [some (.ref 0), none, none]) (st' := [.ref 0]) (h' := h1) (fun _ => rfl) ?_
  refine rt_gf rfl K1 rfl rfl ?_
  refine rt_cv rfl (by decide) c1 rfl rfl rfl rfl (rd_version (by omega) C1) ?_
  rintro v h2 ⟨g2, (⟨u, a, q1, rfl, q3, q4, f2, b2, p2, C2, W2⟩ | ⟨q1, rfl, B2⟩)⟩
  rotate_left
  · have K2 := K1.g g2 (by decide)
    have no : ¬ ∃ a b, wl T = [a, b] ∧ (pVer a).isSome = true ∧ (pVer b).isSome = true := by
      rintro ⟨a, b, e, e1, -⟩
      rw [e] at W1
      obtain ⟨w1, -⟩ := rW_w W1
      rw [w1, q1] at e1; cases e1
    refine rt_k (k := 7) (pc' := 32) (L' := [some (.ref 0), some (.null), some (.null)]) (st' := [.ref 0]) (h' := h2) (fun _ => rfl) ?_
    refine rt_cv rfl (by decide) K2 rfl rfl rfl rfl (kp_finB K2 B2) ?_
    rintro _ h3 ⟨x, rfl, F3, T3⟩
    have g3 := gr_mo (gr_fin (gr_op F1 g2) F3) (fun _ q => q) (show 2 ≤ 4 by omega) (show 8 ≤ 16 by omega)
    refine rt_pe rfl (fun z => ?_) (fun z => ?_)
    ·
      refine rt_k (k := 1) (pc' := 48) (L' := [some (.ref 0), some (.null), some (.null)]) (st' := [.int (-6)]) (h' := h3) (fun _ => rfl) ?_
      exact rt_r (v := some (.int (-6))) rfl rfl (⟨g3, C.rd g3 T3, Or.inr ⟨no, rfl⟩⟩)
    refine rt_k (k := 3) (pc' := 48) (L' := [some (.ref 0), some (.null), some (.null)]) (st' := [.int (-6)]) (h' := h3) (fun _ => rfl) ?_
    exact rt_r (v := some (.int (-6))) rfl rfl (⟨g3, C.rd g3 T3, Or.inr ⟨no, rfl⟩⟩)
  have hws : wl T = sl T f1 b1 :: wl (T.drop b1) := by
    rcases W1 with ⟨e1, e2, e3⟩ | ⟨ws', e1, -, -, e4, -⟩
    · rw [sl_nil (by omega), pVer_nil] at q1; cases q1
    · rw [e1, e4]
  have K2 := K1.g g2 (by decide)
  have c2 := C2.2.1
  have l2 := g2.1
  refine rt_k (k := 4) (pc' := 24) (L' := [some (.ref 0), some (.ref a), none]) (st' := [.ref 0]) (h' := h2) (fun _ => rfl) ?_
  refine rt_gf rfl K2 rfl rfl ?_
  refine rt_cv rfl (by decide) c2 rfl rfl rfl rfl (rd_version (by omega) C2) ?_
  rintro v h3 ⟨g3, (⟨w, a', r1, rfl, r3', r4, r5⟩ | ⟨r1, rfl, B3⟩)⟩
  rotate_left
  · have K3 := K2.g g3 (by decide)
    have no : ¬ ∃ a b, wl T = [a, b] ∧ (pVer a).isSome = true ∧ (pVer b).isSome = true := by
      rintro ⟨x, y, e, -, e1⟩
      rw [hws] at e
      injection e with e2 e3
      rw [e3] at W2
      obtain ⟨w1, -⟩ := rW_w W2
      rw [w1, r1] at e1; cases e1
    refine rt_k (k := 2) (pc' := 32) (L' := [some (.ref 0), some (.ref a), some (.null)]) (st' := [.ref 0]) (h' := h3) (fun _ => rfl) ?_
    refine rt_cv rfl (by decide) K3 rfl rfl rfl rfl (kp_finB K3 B3) ?_
    rintro _ h4 ⟨x, rfl, F4, T4⟩
    have g4 := gr_fin (gr_op F1 (gr_mo (gr_tr g2 g3) (fun _ q => q) (show 2 + 2 ≤ 4 by omega) (show 8 + 8 ≤ 16 by omega))) F4
    refine rt_pe rfl (fun z => ?_) (fun z => ?_)
    ·
      refine rt_k (k := 1) (pc' := 48) (L' := [some (.ref 0), some (.ref a), some (.null)]) (st' := [.int (-6)]) (h' := h4) (fun _ => rfl) ?_
      exact rt_r (v := some (.int (-6))) rfl rfl (⟨g4, C.rd g4 T4, Or.inr ⟨no, rfl⟩⟩)
    refine rt_k (k := 5) (pc' := 48) (L' := [some (.ref 0), some (.ref a), some (.null)]) (st' := [.int (-6)]) (h' := h4) (fun _ => rfl) ?_
    exact rt_r (v := some (.int (-6))) rfl rfl (⟨g4, C.rd g4 T4, Or.inr ⟨no, rfl⟩⟩)
  have hws2 : wl (T.drop b1) = sl T f2 b2 :: wl (T.drop b2) := by
    rcases W2 with ⟨e1, e2, e3⟩ | ⟨ws', e1, -, -, e4, -⟩
    · rw [sl_nil (by omega), pVer_nil] at r1; cases r1
    · rw [e1, e4]
  have K3 := K2.g g3 (by decide)
  refine rt_k (k := 2) (pc' := 32) (L' := [some (.ref 0), some (.ref a), some (.ref a')]) (st' := [.ref 0]) (h' := h3) (fun _ => rfl) ?_
  refine rt_cv rfl (by decide) K3 rfl rfl rfl rfl (kp_fin K3 r5) ?_
  rintro _ h4 ⟨rfl, F4, T4⟩
  have g4 := gr_fin (gr_op F1 (gr_mo (gr_tr g2 g3) (fun _ q => q) (show 2 + 2 ≤ 4 by omega) (show 8 + 8 ≤ 16 by omega))) F4
  refine rt_pe rfl (fun z => ?_) (fun z => ?_)
  ·
    refine rt_k (k := 1) (pc' := 48) (L' := [some (.ref 0), some (.ref a), some (.ref a')]) (st' := [.int (-6)]) (h' := h4) (fun _ => rfl) ?_
    exact rt_r (v := some (.int (-6))) rfl rfl (⟨g4, C.rd g4 T4, Or.inr ⟨by rintro ⟨x, y, e, -, -⟩; rw [hws, hws2] at e; injection e with e2 e3; injection e3 with e4 e5; exact z e5, rfl⟩⟩)
  have E4 := fr_ex F4 (by intro k q; unfold zz at q; omega)
  have zu := (q4.ex (gr_ex g3 r3_zz)).ex E4
  have zw := r4.ex E4
  obtain ⟨ku, cu⟩ := zu.c
  refine rt_k (k := 6) (pc' := 51) (L' := [some (.ref 0), some (.ref a), some (.ref a')]) (st' := [.ref a', .ref a]) (h' := h4) (fun _ => rfl) ?_
  refine rt_cvE rfl (by decide) cu rfl rfl rfl rfl (ver_ag zu zw) ?_
  exact rt_r (v := some (.int (vc u w))) rfl rfl (⟨g4, C.rd g4 T4, Or.inl ⟨_, _, u, w, by rw [hws, hws2, z], q1, r1, rfl⟩⟩)
end KG

