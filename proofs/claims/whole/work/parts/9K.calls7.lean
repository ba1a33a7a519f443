/-! THE KEEPER'S CALLS, 7: unwant, want, release. -/
section KI
variable {X : Nat × (Nat → Int32)} {d : Nat} {h : List va_E} {Q : Option Value → List va_E → Prop} {T : List Nat} {I : List kL} {nx : Nat} {D : kD} {K : List kG} {made : Nat} {st : kS}
theorem sZ.c {le : Prop} (h0 : ¬ le) (Z : sZ h le) : cSo h I D := ⟨le, Z, fun q => absurd q h0⟩
theorem tA_cA : ∀ k, tA k → cA k := by intro k q; unfold tA at q; unfold cA; omega
/-- roots and solver changed -/
theorem kKp.ro {h1 h2 : List va_E} {D' : kD} (C : kKp h T I nx D K made st) (f1 : fr_ (fun z => z = 6 ∨ z = 7 ∨ z = 8) h h1) (R : cR h1 D') (f2 : fr_ sB h1 h2) (Z : sZ h2 False) : kKp h2 T I nx D' K made st := by
  obtain ⟨l, k0, ⟨⟨t1, ⟨g, t2, t3⟩, t4⟩, f, b, p, t5, t6⟩, CI, -, CS, CH⟩ := C
  have F : fr_ (fun z => z = 6 ∨ z = 7 ∨ z = 8 ∨ sB z) h h2 := fr_tr (fr_mo f1 (fun k q => by omega)) (fr_mo f2 (fun k q => Or.inr (Or.inr (Or.inr q))))
  have E := fr_ex F (by intro k q; unfold zz at q; unfold sB; omega)
  refine ⟨by rw [F.1]; exact l, fr_at F (by unfold sB; omega) k0, ⟨⟨fr_at F (by unfold sB; omega) t1, ⟨g, fr_at F (by unfold sB; omega) t2, t3⟩, t4⟩, f, b, p, fr_at F (by unfold sB; omega) t5, t6⟩, CI.fm F (by unfold sB; omega) (by unfold sB; omega) (by intro k q; unfold zz at q; unfold sB; omega), R.fm f2 (by decide) (by decide) (by decide) sB_zz, Z.c id, CH.fm (A := fun _ => True) (fun k hk => F.2.2 k (by unfold hA at hk; unfold sB; omega)) E⟩
/-- index and solver changed -/
theorem kKp.ix {h1 h2 : List va_E} {I' : List kL} {nx' : Nat} (C : kKp h T I nx D K made st) (f1 : fr_ (fun z => z = 4 ∨ z = 5) h h1) (R : cI h1 I' nx') (f2 : fr_ sB h1 h2) (Z : sZ h2 False) : kKp h2 T I' nx' D K made st := by
  obtain ⟨l, k0, ⟨⟨t1, ⟨g, t2, t3⟩, t4⟩, f, b, p, t5, t6⟩, -, CR, CS, CH⟩ := C
  have F : fr_ (fun z => z = 4 ∨ z = 5 ∨ sB z) h h2 := fr_tr (fr_mo f1 (fun k q => by omega)) (fr_mo f2 (fun k q => Or.inr (Or.inr q)))
  have E := fr_ex F (by intro k q; unfold zz at q; unfold sB; omega)
  refine ⟨by rw [F.1]; exact l, fr_at F (by unfold sB; omega) k0, ⟨⟨fr_at F (by unfold sB; omega) t1, ⟨g, fr_at F (by unfold sB; omega) t2, t3⟩, t4⟩, f, b, p, fr_at F (by unfold sB; omega) t5, t6⟩, R.fm f2 (by decide) (by decide) sB_zz, CR.fm F (by unfold sB; omega) (by unfold sB; omega) (by unfold sB; omega) (by intro k q; unfold zz at q; unfold sB; omega), Z.c id, CH.fm (A := fun _ => True) (fun k hk => F.2.2 k (by unfold hA at hk; unfold sB; omega)) E⟩
theorem gr_cA {h1 h2 : List va_E} {c s : Nat} {A : Nat → Prop} (G : gr tA c s h h1) (F : fr_ A h1 h2) (hA : ∀ k, A k → cA k) : gr cA c s h h2 := gr_mo (gr_tr (gr_mo G tA_cA (Nat.le_refl _) (Nat.le_refl _)) (gr_mo (gr_fr F) hA (Nat.le_refl _) (Nat.le_refl _))) (fun _ q => q) (by omega) (by omega)
def uwP (ws : List kW) (D : kD) (v : Option Value) (D' : kD) : Prop := ((¬ ∃ w, ws = [w] ∧ isNm w = true) ∧ v = some (.int (-6)) ∧ D' = D) ∨ ∃ w, ws = [w] ∧ isNm w = true ∧ (((∀ e ∈ D, ¬ nmI e.1 = nmI w) ∧ v = some (.int (-2)) ∧ D' = D) ∨ ∃ (p : Nat) (e : kW × kR), D[p]? = some e ∧ nmI e.1 = nmI w ∧ (∀ (j : Nat) e', j < p → D[j]? = some e' → ¬ nmI e'.1 = nmI w) ∧ v = some (.int (nI (D.length - 1))) ∧ D' = D.eraseIdx p)
theorem kp_unwant (C : kKp h T I nx D K made st) : rt_ X (d + 7) 70 0 [some (.ref 0), none, none, none] [] h (fun v h' => gr cA 0 0 h h' ∧ ∃ D', kKp h' [] I nx D' K made st ∧ uwP (wl T) D v D') := by
  obtain ⟨l39, K0, ⟨P, f0, b0, p0, c0, hp0⟩, -⟩ := id C
  refine rt_k (k := 1) (pc' := 1) (L' := [some (.ref 0), none, none, none]) (st' := [.ref 0]) (h' := h) (fun _ => rfl) ?_
  refine rt_gf rfl K0 rfl rfl ?_
  refine rt_cv rfl (by decide) c0 rfl rfl rfl rfl (rd_open2 C.2.2.1) ?_
  rintro _ h1 ⟨rfl, F1, f1, b1, p1, C1, W1⟩
  have K1 : pk0 h1 := fr_at F1 (by decide) K0
  have c1 := C1.2.1
  have l1 : h1.length = h.length := F1.1
  refine rt_k (k := 1) (pc' := 8) (L' := [some (.ref 0), none, none, none]) (st' := [.ref 0]) (h' := h1) (fun _ => rfl) ?_
  refine rt_gf rfl K1 rfl rfl ?_
  refine rt_cv rfl (by decide) c1 rfl rfl rfl rfl (rd_name (d := d) C1 W1) ?_
  rintro v h2 ⟨F2, (⟨w, us, q1, q2, rfl, q5⟩ | ⟨q1, rfl, B2⟩)⟩
  rotate_left
  · have K2 : pk0 h2 := fr_at F2 (by decide) K1
    have no : ¬ ∃ w, wl T = [w] ∧ isNm w = true := fun ⟨w, e, e1⟩ => q1 ⟨w, [], e, e1⟩
    refine rt_k (k := 2) (pc' := 16) (L' := [some (.ref 0), some (.long 0), none, none]) (st' := [.ref 0]) (h' := h2) (fun _ => rfl) ?_
    refine rt_cv rfl (by decide) K2 rfl rfl rfl rfl (kp_finB K2 B2) ?_
    rintro _ h3 ⟨x, rfl, F3, T3⟩
    have g3 := gr_fin (gr_fr (fr_tr F1 F2)) F3
    have g3' := gr_mo g3 tA_cA (Nat.le_refl _) (Nat.le_refl _)
    refine rt_pe rfl (fun z => ?_) (fun z => ?_)
    ·
      refine rt_k (k := 1) (pc' := 30) (L' := [some (.ref 0), some (.long 0), none, none]) (st' := [.int (-6)]) (h' := h3) (fun _ => rfl) ?_
      exact rt_r (v := some (.int (-6))) rfl rfl (⟨g3', D, C.rd g3 T3, Or.inl ⟨no, rfl, rfl⟩⟩)
    refine rt_k (k := 3) (pc' := 25) (L' := [some (.ref 0), some (.long 0), none, none]) (st' := [.int (lg_cmp 0 0)]) (h' := h3) (fun _ => rfl) ?_
    refine rt_ln rfl (fun z => absurd z ((fun y => y rfl))) (fun _ => ?_)
    refine rt_k (k := 1) (pc' := 30) (L' := [some (.ref 0), some (.long 0), none, none]) (st' := [.int (-6)]) (h' := h3) (fun _ => rfl) ?_
    exact rt_r (v := some (.int (-6))) rfl rfl (⟨g3', D, C.rd g3 T3, Or.inl ⟨no, rfl, rfl⟩⟩)
  have K2 : pk0 h2 := fr_at F2 (by decide) K1
  refine rt_k (k := 2) (pc' := 16) (L' := [some (.ref 0), some (.long (nmI w)), none, none]) (st' := [.ref 0]) (h' := h2) (fun _ => rfl) ?_
  refine rt_cv rfl (by decide) K2 rfl rfl rfl rfl (kp_fin K2 q5) ?_
  rintro _ h3 ⟨rfl, F3, T3⟩
  have g3 := gr_fin (gr_fr (fr_tr F1 F2)) F3
  have g3' := gr_mo g3 tA_cA (Nat.le_refl _) (Nat.le_refl _)
  have C3 := C.rd g3 T3
  refine rt_pe rfl (fun z => ?_) (fun z => ?_)
  ·
    refine rt_k (k := 1) (pc' := 30) (L' := [some (.ref 0), some (.long (nmI w)), none, none]) (st' := [.int (-6)]) (h' := h3) (fun _ => rfl) ?_
    exact rt_r (v := some (.int (-6))) rfl rfl (⟨g3', D, C3, Or.inl ⟨by rintro ⟨w', e, -⟩; rw [q1] at e; injection e with e2 e3; exact z e3, rfl, rfl⟩⟩)
  have hws : wl T = [w] := by rw [q1, z]
  obtain ⟨-, K3, -, CI3, CR3, CS3, CH3⟩ := id C3
  obtain ⟨le, sz3, -⟩ := id CS3
  obtain ⟨N, G, D3⟩ := id CR3
  have d6 := D3.1
  refine rt_k (k := 3) (pc' := 25) (L' := [some (.ref 0), some (.long (nmI w)), none, none]) (st' := [.int (lg_cmp (nmI w) 0)]) (h' := h3) (fun _ => rfl) ?_
  refine rt_ln rfl (fun _ => ?_) (fun z => absurd z ((fun y => nm_nz q2 y)))
  refine rt_k (k := 1) (pc' := 32) (L' := [some (.ref 0), some (.long (nmI w)), none, none]) (st' := [.ref 0]) (h' := h3) (fun _ => rfl) ?_
  refine rt_gf rfl K3 rfl rfl ?_
  refine rt_k (k := 1) (pc' := 36) (L' := [some (.ref 0), some (.long (nmI w)), none, none]) (st' := [.long (nmI w), .ref 6]) (h' := h3) (fun _ => rfl) ?_
  refine rt_cvH rfl (by decide) d6 rfl rfl rfl rfl (dmd_place D3 (nmI w)) ?_
  rintro _ (⟨p, e, he, hx, hf, rfl⟩ | ⟨hno, rfl⟩)
  ·
    have hp := gt_lt he
    have h6 := D3.2.2.2.1
    refine rt_k (k := 2) (pc' := 41) (L' := [some (.ref 0), some (.long (nmI w)), none, some (.int (nI p))]) (st' := [.int (nI p)]) (h' := h3) (fun _ => rfl) ?_
    refine rt_zge rfl (by omega) ?_
    refine rt_k (k := 1) (pc' := 48) (L' := [some (.ref 0), some (.long (nmI w)), none, some (.int (nI p))]) (st' := [.ref 0]) (h' := h3) (fun _ => rfl) ?_
    refine rt_gf rfl K3 rfl rfl ?_
    refine rt_k (k := 1) (pc' := 52) (L' := [some (.ref 0), some (.long (nmI w)), none, some (.int (nI p))]) (st' := [.int (nI p), .ref 6]) (h' := h3) (fun _ => rfl) ?_
    refine rt_cv rfl (by decide) d6 rfl rfl rfl rfl (roo_remove CR3 hp) ?_
    rintro _ h4 ⟨rfl, F4, R4⟩
    have K4 : pk0 h4 := fr_at F4 (by omega) K3
    have Z4 := sz3.fm (fun k hk => F4.2.2 k (by unfold sB at hk; omega))
    obtain ⟨G0, rg, op, li, so, fo, M, N', R', E, e9, -⟩ := id Z4
    refine rt_k (k := 1) (pc' := 56) (L' := [some (.ref 0), some (.long (nmI w)), none, some (.int (nI p))]) (st' := [.ref 0]) (h' := h4) (fun _ => rfl) ?_
    refine rt_gf rfl K4 rfl rfl ?_
    refine rt_cv rfl (by decide) e9 rfl rfl rfl rfl (so_forget Z4) ?_
    rintro _ h5 ⟨rfl, F5, Z5⟩
    have C5 := C3.ro F4 R4 F5 Z5
    obtain ⟨-, K5, -, -, ⟨N5, G5, d5, -⟩, -⟩ := id C5
    rw [List.length_eraseIdx_of_lt hp] at d5
    refine rt_k (k := 1) (pc' := 63) (L' := [some (.ref 0), some (.long (nmI w)), none, some (.int (nI p))]) (st' := [.ref 0]) (h' := h5) (fun _ => rfl) ?_
    refine rt_gf rfl K5 rfl rfl ?_
    refine rt_cvE (v := some (.int (nI (D.length - 1)))) (h' := h5) rfl (by decide) d5 rfl rfl rfl rfl ?_ ?_
    · refine rt_k (k := 1) (pc' := 1) (L' := [some (.ref 6)]) (st' := [.ref 6]) (h' := h5) (fun _ => rfl) ?_
      refine rt_gf rfl d5 rfl rfl ?_
      exact rt_r (v := some (.int (nI (D.length - 1)))) rfl rfl ⟨rfl, rfl⟩
    exact rt_r (v := some (.int (nI (D.length - 1)))) rfl rfl (⟨gr_cA (A := fun z => (z = 6 ∨ z = 7 ∨ z = 8) ∨ sB z) g3 (fr_tr (fr_mo F4 (fun k q => Or.inl q)) (fr_mo F5 (fun k q => Or.inr q))) (fun k q => by unfold sB at q; unfold cA; omega), D.eraseIdx p, C5, Or.inr ⟨w, hws, q2, Or.inr ⟨p, e, he, hx, hf, rfl, rfl⟩⟩⟩)
  refine rt_k (k := 4) (pc' := 46) (L' := [some (.ref 0), some (.long (nmI w)), none, some (.int (-1))]) (st' := [.int (-2)]) (h' := h3) (fun _ => rfl) ?_
  exact rt_r (v := some (.int (-2))) rfl rfl (⟨g3', D, C3, Or.inr ⟨w, hws, q2, Or.inl ⟨hno, rfl, rfl⟩⟩⟩)
def wnP (ws : List kW) (D : kD) (v : Option Value) (D' : kD) : Prop := ((¬ ∃ w us R, ws = w :: us ∧ isNm w = true ∧ pRng us = some (R, [])) ∧ v = some (.int (-6)) ∧ D' = D) ∨ ∃ w us R, ws = w :: us ∧ isNm w = true ∧ pRng us = some (R, []) ∧ ((D.length = 6 ∧ (∀ e ∈ D, ¬ nmI e.1 = nmI w) ∧ v = some (.int (-3)) ∧ D' = D) ∨ (D.length < 6 ∧ (∀ e ∈ D, ¬ nmI e.1 = nmI w) ∧ v = some (.int (nI (D.length + 1))) ∧ D' = D ++ [(w, R)]) ∨ ∃ (p : Nat) (e : kW × kR), D[p]? = some e ∧ nmI e.1 = nmI w ∧ v = some (.int (nI D.length)) ∧ D' = D.set p (w, R))
theorem kp_want (C : kKp h T I nx D K made st) : rt_ X (d + 8) 67 0 [some (.ref 0), none, none, none] [] h (fun v h' => gr cA 83 343 h h' ∧ ∃ D', kKp h' [] I nx D' K made st ∧ wnP (wl T) D v D') := by
  obtain ⟨l39, K0, ⟨P, f0, b0, p0, c0, hp0⟩, -⟩ := id C
  refine rt_k (k := 1) (pc' := 1) (L' := [some (.ref 0), none, none, none]) (st' := [.ref 0]) (h' := h) (fun _ => rfl) ?_
  refine rt_gf rfl K0 rfl rfl ?_
  refine rt_cv rfl (by decide) c0 rfl rfl rfl rfl (rd_open2 C.2.2.1) ?_
  rintro _ h1 ⟨rfl, F1, f1, b1, p1, C1, W1⟩
  have K1 : pk0 h1 := fr_at F1 (by decide) K0
  have c1 := C1.2.1
  have l1 : h1.length = h.length := F1.1
  refine rt_k (k := 1) (pc' := 8) (L' := [some (.ref 0), none, none, none]) (st' := [.ref 0]) (h' := h1) (fun _ => rfl) ?_
  refine rt_gf rfl K1 rfl rfl ?_
  refine rt_cv rfl (by decide) c1 rfl rfl rfl rfl (rd_name (d := d + 1) C1 W1) ?_
  have nul : ∀ (hh : List va_E) (x : Int64), gr r3 83 343 h hh → rB hh T → pk0 hh → (¬ ∃ w us R, wl T = w :: us ∧ isNm w = true ∧ pRng us = some (R, [])) → rt_ X (d + 8) 67 32 [some (.ref 0), some (.long x), none, none] [.null] hh (fun v h' => gr cA 83 343 h h' ∧ ∃ D', kKp h' [] I nx D' K made st ∧ wnP (wl T) D v D') := fun hh x g B Kh no => by
    refine rt_k (k := 2) (pc' := 34) (L' := [some (.ref 0), some (.long x), none, some (.null)]) (st' := [.ref 0]) (h' := hh) (fun _ => rfl) ?_
    refine rt_cv rfl (by decide) Kh rfl rfl rfl rfl (kp_finB Kh B) ?_
    rintro _ h3 ⟨y, rfl, F3, T3⟩
    have g3 := gr_fin g F3
    have g3' := gr_mo g3 tA_cA (Nat.le_refl _) (Nat.le_refl _)
    refine rt_pe rfl (fun z => ?_) (fun z => ?_)
    ·
      refine rt_k (k := 1) (pc' := 46) (L' := [some (.ref 0), some (.long x), none, some (.null)]) (st' := [.int (-6)]) (h' := h3) (fun _ => rfl) ?_
      exact rt_r (v := some (.int (-6))) rfl rfl (⟨g3', D, C.rd g3 T3, Or.inl ⟨no, rfl, rfl⟩⟩)
    refine rt_k (k := 3) (pc' := 46) (L' := [some (.ref 0), some (.long x), none, some (.null)]) (st' := [.int (-6)]) (h' := h3) (fun _ => rfl) ?_
    exact rt_r (v := some (.int (-6))) rfl rfl (⟨g3', D, C.rd g3 T3, Or.inl ⟨no, rfl, rfl⟩⟩)
  rintro v h2 ⟨F2, (⟨w, us, q1, q2, rfl, f2, b2, p2, C2, W2⟩ | ⟨q1, rfl, B2⟩)⟩
  rotate_left
  · have K2 : pk0 h2 := fr_at F2 (by decide) K1
    have no : ¬ ∃ w us R, wl T = w :: us ∧ isNm w = true ∧ pRng us = some (R, []) := fun ⟨w, us, R, e, e1, _⟩ => q1 ⟨w, us, e, e1⟩
    refine rt_k (k := 3) (pc' := 17) (L' := [some (.ref 0), some (.long 0), none, none]) (st' := [.long 0, .long 0]) (h' := h2) (fun _ => rfl) ?_
    refine rt_k (k := 1) (pc' := 18) (L' := [some (.ref 0), some (.long 0), none, none]) (st' := [.int (lg_cmp 0 0)]) (h' := h2) (fun _ => rfl) ?_
    refine rt_ln rfl (fun z => absurd z ((fun y => y rfl))) (fun _ => ?_)
    refine rt_k (k := 2) (pc' := 32) (L' := [some (.ref 0), some (.long 0), none, none]) (st' := [.null]) (h' := h2) (fun _ => rfl) ?_
    exact nul h2 0 (gr_mo (gr_fr (fr_tr F1 F2)) (fun _ q => q) (by omega) (by omega)) B2 K2 no
  have K2 : pk0 h2 := fr_at F2 (by decide) K1
  have c2 := C2.2.1
  have l2 : h2.length = h1.length := F2.1
  refine rt_k (k := 4) (pc' := 18) (L' := [some (.ref 0), some (.long (nmI w)), none, none]) (st' := [.int (lg_cmp (nmI w) 0)]) (h' := h2) (fun _ => rfl) ?_
  refine rt_ln rfl (fun _ => ?_) (fun z => absurd z ((fun y => nm_nz q2 y)))
  refine rt_k (k := 1) (pc' := 26) (L' := [some (.ref 0), some (.long (nmI w)), none, none]) (st' := [.ref 0]) (h' := h2) (fun _ => rfl) ?_
  refine rt_gf rfl K2 rfl rfl ?_
  refine rt_cv rfl (by decide) c2 rfl rfl rfl rfl (rd_range (d := d + 1) (by omega) C2 W2) ?_
  rintro v h3 ⟨g3, (⟨R, us', ra, r1, rfl, r3', r4, r5⟩ | ⟨r1, rfl, B3⟩)⟩
  rotate_left
  · have K3 := K2.g g3 (by decide)
    have no : ¬ ∃ w us R, wl T = w :: us ∧ isNm w = true ∧ pRng us = some (R, []) := by
      rintro ⟨x, us', R, e, -, e1⟩
      rw [q1] at e
      injection e with e2 e3
      rw [← e3, r1] at e1; cases e1
    exact nul h3 _ (gr_op (fr_tr F1 F2) g3) B3 K3 no
  have K3 := K2.g g3 (by decide)
  refine rt_k (k := 2) (pc' := 34) (L' := [some (.ref 0), some (.long (nmI w)), none, some (.ref ra)]) (st' := [.ref 0]) (h' := h3) (fun _ => rfl) ?_
  refine rt_cv rfl (by decide) K3 rfl rfl rfl rfl (kp_fin K3 r5) ?_
  rintro _ h4 ⟨rfl, F4, T4⟩
  have g4 := gr_fin (gr_op (fr_tr F1 F2) g3) F4
  have g4' := gr_mo g4 tA_cA (Nat.le_refl _) (Nat.le_refl _)
  have C4 := C.rd g4 T4
  refine rt_pe rfl (fun z => ?_) (fun z => ?_)
  ·
    refine rt_k (k := 1) (pc' := 46) (L' := [some (.ref 0), some (.long (nmI w)), none, some (.ref ra)]) (st' := [.int (-6)]) (h' := h4) (fun _ => rfl) ?_
    exact rt_r (v := some (.int (-6))) rfl rfl (⟨g4', D, C4, Or.inl ⟨by rintro ⟨x, us9, R', e, -, e1⟩; rw [q1] at e; injection e with e2 e3; rw [← e3, r1] at e1; cases e1; exact z rfl, rfl, rfl⟩⟩)
  subst z
  have E4 := fr_ex F4 (by intro k q; unfold zz at q; omega)
  have zr := r4.ex E4
  obtain ⟨-, K4, -, CI4, CR4, CS4, CH4⟩ := id C4
  obtain ⟨le, sz4, -⟩ := id CS4
  obtain ⟨N, G, D4⟩ := id CR4
  have d6 := D4.1
  have h6 := D4.2.2.2.1
  refine rt_k (k := 3) (pc' := 48) (L' := [some (.ref 0), some (.long (nmI w)), none, some (.ref ra)]) (st' := [.ref 0]) (h' := h4) (fun _ => rfl) ?_
  refine rt_gf rfl K4 rfl rfl ?_
  refine rt_k (k := 2) (pc' := 53) (L' := [some (.ref 0), some (.long (nmI w)), none, some (.ref ra)]) (st' := [.ref ra, .long (nmI w), .ref 6]) (h' := h4) (fun _ => rfl) ?_
  refine rt_cv rfl (by decide) d6 rfl rfl rfl rfl (roo_put (w := w) CR4 zr) ?_
  rintro _ h5 (⟨i1, i2, rfl, e9⟩ | ⟨i1, i2, rfl, F5, R5⟩ | ⟨p, e, i1, i2, rfl, F5, R5⟩)
  ·
    rw [e9]
    refine rt_k (k := 2) (pc' := 61) (L' := [some (.ref 0), some (.long (nmI w)), none, some (.ref ra)]) (st' := [.int (-3)]) (h' := h4) (fun _ => rfl) ?_
    exact rt_r (v := some (.int (-3))) rfl rfl (⟨g4', D, C4, Or.inr ⟨w, us, R, q1, q2, r1, Or.inl ⟨i1, i2, rfl, rfl⟩⟩⟩)
  ·
    have K5 : pk0 h5 := fr_at F5 (by omega) K4
    have Z5 := sz4.fm (fun k hk => F5.2.2 k (by unfold sB at hk; omega))
    obtain ⟨G0, rg, op, li, so, fo, M, N', R', E, e9, -⟩ := id Z5
    refine rt_k (k := 2) (pc' := 63) (L' := [some (.ref 0), some (.long (nmI w)), none, some (.ref ra)]) (st' := [.ref 0]) (h' := h5) (fun _ => rfl) ?_
    refine rt_gf rfl K5 rfl rfl ?_
    refine rt_cv rfl (by decide) e9 rfl rfl rfl rfl (so_forget Z5) ?_
    rintro _ h7 ⟨rfl, F7, Z7⟩
    have C7 := C4.ro F5 R5 F7 Z7
    obtain ⟨-, K7, -, -, ⟨N5, G5, d7, -⟩, -⟩ := id C7
    rw [List.length_append] at d7
    refine rt_k (k := 1) (pc' := 70) (L' := [some (.ref 0), some (.long (nmI w)), none, some (.ref ra)]) (st' := [.ref 0]) (h' := h7) (fun _ => rfl) ?_
    refine rt_gf rfl K7 rfl rfl ?_
    refine rt_cvE (v := some (.int (nI (D.length + 1)))) (h' := h7) rfl (by decide) d7 rfl rfl rfl rfl ?_ ?_
    · refine rt_k (k := 1) (pc' := 1) (L' := [some (.ref 6)]) (st' := [.ref 6]) (h' := h7) (fun _ => rfl) ?_
      refine rt_gf rfl d7 rfl rfl ?_
      exact rt_r (v := some (.int (nI (D.length + 1)))) rfl rfl ⟨rfl, rfl⟩
    exact rt_r (v := some (.int (nI (D.length + 1)))) rfl rfl (⟨gr_cA (A := fun z => (z = 6 ∨ z = 7 ∨ z = 8) ∨ sB z) g4 (fr_tr (fr_mo F5 (fun k q => Or.inl q)) (fr_mo F7 (fun k q => Or.inr q))) (fun k q => by unfold sB at q; unfold cA; omega), _, C7, Or.inr ⟨w, us, R, q1, q2, r1, Or.inr (Or.inl ⟨i1, i2, rfl, rfl⟩)⟩⟩)
  have K5 : pk0 h5 := fr_at F5 (by omega) K4
  have Z5 := sz4.fm (fun k hk => F5.2.2 k (by unfold sB at hk; omega))
  obtain ⟨G0, rg, op, li, so, fo, M, N', R', E, e9, -⟩ := id Z5
  refine rt_k (k := 2) (pc' := 63) (L' := [some (.ref 0), some (.long (nmI w)), none, some (.ref ra)]) (st' := [.ref 0]) (h' := h5) (fun _ => rfl) ?_
  refine rt_gf rfl K5 rfl rfl ?_
  refine rt_cv rfl (by decide) e9 rfl rfl rfl rfl (so_forget Z5) ?_
  rintro _ h7 ⟨rfl, F7, Z7⟩
  have C7 := C4.ro F5 R5 F7 Z7
  obtain ⟨-, K7, -, -, ⟨N5, G5, d7, -⟩, -⟩ := id C7
  rw [List.length_set] at d7
  refine rt_k (k := 1) (pc' := 70) (L' := [some (.ref 0), some (.long (nmI w)), none, some (.ref ra)]) (st' := [.ref 0]) (h' := h7) (fun _ => rfl) ?_
  refine rt_gf rfl K7 rfl rfl ?_
  refine rt_cvE (v := some (.int (nI D.length))) (h' := h7) rfl (by decide) d7 rfl rfl rfl rfl ?_ ?_
  · refine rt_k (k := 1) (pc' := 1) (L' := [some (.ref 6)]) (st' := [.ref 6]) (h' := h7) (fun _ => rfl) ?_
    refine rt_gf rfl d7 rfl rfl ?_
    exact rt_r (v := some (.int (nI D.length))) rfl rfl ⟨rfl, rfl⟩
  exact rt_r (v := some (.int (nI D.length))) rfl rfl (⟨gr_cA (A := fun z => (z = 6 ∨ z = 7 ∨ z = 8) ∨ sB z) g4 (fr_tr (fr_mo F5 (fun k q => Or.inl q)) (fr_mo F7 (fun k q => Or.inr q))) (fun k q => by unfold sB at q; unfold cA; omega), _, C7, Or.inr ⟨w, us, R, q1, q2, r1, Or.inr (Or.inr ⟨p, e, i1, i2, rfl, rfl⟩)⟩⟩)
/-- what release answers and leaves -/
def rlQ (ws : List kW) (I : List kL) (nx : Nat) (v : Option Value) (I' : List kL) (nx' : Nat) : Prop := (pRel nx ws = none ∧ v = some (.int (-6)) ∧ I' = I ∧ nx' = nx) ∨ ∃ r, pRel nx ws = some r ∧ (((∃ s ∈ I, oa s r = 0) ∧ v = some (.int (-4)) ∧ I' = I ∧ nx' = nx) ∨ ((¬ ∃ s ∈ I, oa s r = 0) ∧ ¬ rmP I r ∧ v = some (.int (-3)) ∧ I' = I ∧ nx' = nx) ∨ ((¬ ∃ s ∈ I, oa s r = 0) ∧ rmP I r ∧ v = some (.int (nI nx)) ∧ nx' = nx + 1 ∧ ∃ p, p ≤ I.length ∧ (∀ (j : Nat) s, p ≤ j → I[j]? = some s → oa r s < 0) ∧ (∀ s, 0 < p → I[p - 1]? = some s → ¬ oa r s < 0) ∧ I' = I.take p ++ r :: I.drop p))
theorem pRel_no {no : Nat} {ws : List kW} {r : kL} (h : pRel no ws = some r) : lNo r = no := by
  unfold pRel at h
  split at h
  · split at h
    · split at h
      · next u _ =>
        cases hq : pCl 13 _ [] [] [] with
        | none => rw [hq] at h; cases h
        | some q => rw [hq] at h; cases h; rfl
      · cases h
    · cases h
  · cases h
theorem kp_release (C : kKp h T I nx D K made st) (hx : nx < 600) : rt_ X (d + 9) 19 0 [some (.ref 0), none] [] h (fun v h' => gr cA 1089 4510 h h' ∧ ∃ I' nx', kKp h' [] I' nx' D K made st ∧ rlQ (wl T) I nx v I' nx') := by
  obtain ⟨l39, K0, ⟨P, f0, b0, p0, c0, hp0⟩, CI0, -⟩ := id C
  obtain ⟨F0, i4, -⟩ := id CI0
  refine rt_k (k := 1) (pc' := 1) (L' := [some (.ref 0), none]) (st' := [.ref 0]) (h' := h) (fun _ => rfl) ?_
  refine rt_gf rfl K0 rfl rfl ?_
  refine rt_cv rfl (by decide) c0 rfl rfl rfl rfl (rd_open2 C.2.2.1) ?_
  rintro _ h1 ⟨rfl, F1, f1, b1, p1, C1, W1⟩
  have K1 : pk0 h1 := fr_at F1 (by decide) K0
  have c1 := C1.2.1
  have i41 := fr_at F1 (by decide) i4
  have l1 : h1.length = h.length := F1.1
  refine rt_k (k := 1) (pc' := 8) (L' := [some (.ref 0), none]) (st' := [.ref 0]) (h' := h1) (fun _ => rfl) ?_
  refine rt_gf rfl K1 rfl rfl ?_
  refine rt_k (k := 1) (pc' := 12) (L' := [some (.ref 0), none]) (st' := [.ref 0, .ref 3]) (h' := h1) (fun _ => rfl) ?_
  refine rt_gf rfl K1 rfl rfl ?_
  refine rt_cvE (v := some (.int (nI nx))) (h' := h1) rfl (by decide) i41 rfl rfl rfl rfl ?_ ?_
  · refine rt_k (k := 1) (pc' := 1) (L' := [some (.ref 4)]) (st' := [.ref 4]) (h' := h1) (fun _ => rfl) ?_
    refine rt_gf rfl i41 rfl rfl ?_
    exact rt_r (v := some (.int (nI nx))) rfl rfl ⟨rfl, rfl⟩
  refine rt_cv rfl (by decide) c1 rfl rfl rfl rfl (rd_release (no := nx) (d := d) (by omega) C1 W1) ?_
  rintro v h2 ⟨g2, (⟨r, a, q1, rfl, q3, q4, q5⟩ | ⟨q1, q2⟩)⟩
  rotate_left
  · have K2 := K1.g g2 (by decide)
    rcases q2 with ⟨rfl, B2⟩ | ⟨a, u, us, rfl, G2⟩
    · have t0 := trivial
      refine rt_k (k := 2) (pc' := 23) (L' := [some (.ref 0), some (.null)]) (st' := [.ref 0]) (h' := h2) (fun _ => rfl) ?_
      refine rt_cv rfl (by decide) K2 rfl rfl rfl rfl (kp_finB K2 B2) ?_
      rintro _ h3 ⟨x, rfl, F3, T3⟩
      have g3 := gr_fin (gr_op F1 g2) F3
      have g3' := gr_mo g3 tA_cA (Nat.le_refl _) (Nat.le_refl _)
      refine rt_pe rfl (fun z => ?_) (fun z => ?_)
      ·
        refine rt_k (k := 1) (pc' := 35) (L' := [some (.ref 0), some (.null)]) (st' := [.int (-6)]) (h' := h3) (fun _ => rfl) ?_
        exact rt_r (v := some (.int (-6))) rfl rfl (⟨g3', I, nx, C.rd g3 T3, Or.inl ⟨q1, rfl, rfl, rfl⟩⟩)
      refine rt_k (k := 3) (pc' := 35) (L' := [some (.ref 0), some (.null)]) (st' := [.int (-6)]) (h' := h3) (fun _ => rfl) ?_
      exact rt_r (v := some (.int (-6))) rfl rfl (⟨g3', I, nx, C.rd g3 T3, Or.inl ⟨q1, rfl, rfl, rfl⟩⟩)
    · have t0 := trivial
      refine rt_k (k := 2) (pc' := 23) (L' := [some (.ref 0), some (.ref a)]) (st' := [.ref 0]) (h' := h2) (fun _ => rfl) ?_
      refine rt_cv rfl (by decide) K2 rfl rfl rfl rfl (kp_fin K2 G2) ?_
      rintro _ h3 ⟨rfl, F3, T3⟩
      have g3 := gr_fin (gr_op F1 g2) F3
      have g3' := gr_mo g3 tA_cA (Nat.le_refl _) (Nat.le_refl _)
      refine rt_pe rfl (fun _ => ?_) (fun z => absurd z ((fun y => by cases y)))
      refine rt_k (k := 1) (pc' := 35) (L' := [some (.ref 0), some (.ref a)]) (st' := [.int (-6)]) (h' := h3) (fun _ => rfl) ?_
      exact rt_r (v := some (.int (-6))) rfl rfl (⟨g3', I, nx, C.rd g3 T3, Or.inl ⟨q1, rfl, rfl, rfl⟩⟩)
  have K2 := K1.g g2 (by decide)
  refine rt_k (k := 2) (pc' := 23) (L' := [some (.ref 0), some (.ref a)]) (st' := [.ref 0]) (h' := h2) (fun _ => rfl) ?_
  refine rt_cv rfl (by decide) K2 rfl rfl rfl rfl (kp_fin K2 q5) ?_
  rintro _ h3 ⟨rfl, F3, T3⟩
  have g3 := gr_fin (gr_op F1 g2) F3
  have g3' := gr_mo g3 tA_cA (Nat.le_refl _) (Nat.le_refl _)
  have C3 := C.rd g3 T3
  have zr := q4.ex (fr_ex F3 (by intro k q; unfold zz at q; omega))
  obtain ⟨-, K3, -, CI3, CR3, CS3, CH3⟩ := id C3
  obtain ⟨le, sz3, -⟩ := id CS3
  obtain ⟨F9, j4, -, hI, -⟩ := id CI3
  refine rt_pe rfl (fun z => absurd z ((fun y => y rfl))) (fun _ => ?_)
  refine rt_k (k := 3) (pc' := 37) (L' := [some (.ref 0), some (.ref a)]) (st' := [.ref 0]) (h' := h3) (fun _ => rfl) ?_
  refine rt_gf rfl K3 rfl rfl ?_
  refine rt_k (k := 1) (pc' := 41) (L' := [some (.ref 0), some (.ref a)]) (st' := [.ref a, .ref 4]) (h' := h3) (fun _ => rfl) ?_
  refine rt_cvE rfl (by decide) j4 rfl rfl rfl rfl (ix_like CI3 zr) ?_
  refine rt_pe rfl (fun y1 => ?_) (fun y1 => ?_)
  rotate_left
  ·
    refine rt_k (k := 1) (pc' := 49) (L' := [some (.ref 0), some (.ref a)]) (st' := [.int (-4)]) (h' := h3) (fun _ => rfl) ?_
    exact rt_r (v := some (.int (-4))) rfl rfl (⟨g3', I, nx, C3, Or.inr ⟨r, q1, Or.inl ⟨y1, rfl, rfl, rfl⟩⟩⟩)
  refine rt_k (k := 1) (pc' := 51) (L' := [some (.ref 0), some (.ref a)]) (st' := [.ref 0]) (h' := h3) (fun _ => rfl) ?_
  refine rt_gf rfl K3 rfl rfl ?_
  refine rt_k (k := 1) (pc' := 55) (L' := [some (.ref 0), some (.ref a)]) (st' := [.ref a, .ref 4]) (h' := h3) (fun _ => rfl) ?_
  refine rt_cvE rfl (by decide) j4 rfl rfl rfl rfl (ix_room CI3 zr) ?_
  refine rt_pn rfl (fun y2 => ?_) (fun y2 => ?_)
  rotate_left
  ·
    refine rt_k (k := 1) (pc' := 63) (L' := [some (.ref 0), some (.ref a)]) (st' := [.int (-3)]) (h' := h3) (fun _ => rfl) ?_
    exact rt_r (v := some (.int (-3))) rfl rfl (⟨g3', I, nx, C3, Or.inr ⟨r, q1, Or.inr (Or.inl ⟨y1, y2, rfl, rfl, rfl⟩)⟩⟩)
  refine rt_k (k := 1) (pc' := 65) (L' := [some (.ref 0), some (.ref a)]) (st' := [.ref 0]) (h' := h3) (fun _ => rfl) ?_
  refine rt_gf rfl K3 rfl rfl ?_
  refine rt_k (k := 1) (pc' := 69) (L' := [some (.ref 0), some (.ref a)]) (st' := [.ref a, .ref 4]) (h' := h3) (fun _ => rfl) ?_
  refine rt_cv rfl (by decide) j4 rfl rfl rfl rfl (ix_insert CI3 y2.1 hx zr) ?_
  rintro _ h4 ⟨rfl, F4, p, i1, i2, i3, I4⟩
  have K4 : pk0 h4 := fr_at F4 (by omega) K3
  have Z4 := sz3.fm (fun k hk => F4.2.2 k (by unfold sB at hk; omega))
  obtain ⟨G0, rg, op, li, so, fo, M, N', R', E, e9, -⟩ := id Z4
  refine rt_k (k := 1) (pc' := 73) (L' := [some (.ref 0), some (.ref a)]) (st' := [.ref 0]) (h' := h4) (fun _ => rfl) ?_
  refine rt_gf rfl K4 rfl rfl ?_
  refine rt_cv rfl (by decide) e9 rfl rfl rfl rfl (so_forget Z4) ?_
  rintro _ h5 ⟨rfl, F5, Z5⟩
  have C5 := C3.ix F4 I4 F5 Z5
  have z5 := (zr.ex (fr_ex F4 (by intro k q; unfold zz at q; omega))).ex (fr_ex F5 sB_zz)
  obtain ⟨v', nd, bk, ps, ca, -⟩ := z5.at
  rw [pRel_no q1] at ca
  refine rt_k (k := 1) (pc' := 80) (L' := [some (.ref 0), some (.ref a)]) (st' := [.ref a]) (h' := h5) (fun _ => rfl) ?_
  refine rt_gf rfl ca rfl rfl ?_
  exact rt_r (v := some (.int (nI nx))) rfl rfl (⟨gr_cA (A := fun z => (z = 4 ∨ z = 5) ∨ sB z) g3 (fr_tr (fr_mo F4 (fun k q => Or.inl q)) (fr_mo F5 (fun k q => Or.inr q))) (fun k q => by unfold sB at q; unfold cA; omega), _, _, C5, Or.inr ⟨r, q1, Or.inr (Or.inr ⟨y1, y2, rfl, rfl, p, i1, i2, i3, rfl⟩)⟩⟩)
end KI

