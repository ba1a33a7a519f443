/-! THE KEEPER's feed AND end. o: the keeper's cell; its fields are a tape, a reader, an index, roots, a solver, a history. -/
def pk_ (h : List va_E) (o t rd ix ro so hi : Nat) : Prop := h[o]? = some (.inr (0, [.ref t, .ref rd, .ref ix, .ref ro, .ref so, .ref hi]))
theorem fr_at {A : Nat → Prop} {h h' : List va_E} (F : fr_ A h h') {k : Nat} {e : va_E} (hk : ¬ A k) (he : h[k]? = some e) : h'[k]? = some e := (F.2.2 k hk).trans he
theorem tp_no {h : List va_E} {t q k : Nat} {T : List Nat} {ci : Nat} {fs : List Value} (P : tp_ h t q T) (hk : h[k]? = some (.inr (ci, fs))) (hc : ci ≠ 1) : ¬ (k = t ∨ k = q) := by
  obtain ⟨p1, ⟨f, p2, -⟩, -⟩ := P
  rintro (rfl | rfl)
  · rw [p1] at hk
    cases hk
    exact hc rfl
  · rw [p2] at hk
    cases hk
/-- the twenty bytes of a feed -/
def tp_20 (a b c d e : Int32) : List Nat := tp_4 a ++ (tp_4 b ++ (tp_4 c ++ (tp_4 d ++ tp_4 e)))
theorem tp_20_len (a b c d e : Int32) : (tp_20 a b c d e).length = 20 := rfl
set_option maxRecDepth 10000 in
theorem pk_feed {X : Nat × (Nat → Int32)} {n o t rd ix ro so hi q : Nat} {T : List Nat} {h : List va_E} (K : pk_ h o t rd ix ro so hi) (P : tp_ h t q T) (a b c d e : Int32) : rt_ X (n + 1) 13 0 [some (.ref o), some (.int a), some (.int b), some (.int c), some (.int d), some (.int e)] [] h (fun v h' => (T.length + 20 ≤ 400 → v = some (.int (nI (T.length + 20))) ∧ tp_ h' t q (T ++ tp_20 a b c d e) ∧ fr_ (fun z => z = t ∨ z = q) h h') ∧ (¬ T.length + 20 ≤ 400 → v = some (.int (-3)) ∧ h' = h)) := by
  have ho := tp_no P K (by decide)
  refine rt_n rfl ?_
  refine rt_gf rfl K rfl rfl ?_
  refine rt_n rfl ?_
  refine rt_cv rfl (by decide) P.1 rfl rfl rfl rfl (tp_room P) ?_
  rintro v h1 ⟨rfl, rfl⟩
  by_cases hl : T.length + 20 ≤ 400
  · rw [if_pos hl]
    refine rt_n rfl ?_
    refine rt_n rfl ?_
    refine rt_gf rfl K rfl rfl ?_
    refine rt_n rfl ?_
    refine rt_cv rfl (by decide) P.1 rfl rfl rfl rfl (tp_four P (by omega) a) ?_
    rintro v h2 ⟨rfl, P2, F2⟩
    have l2 : (T ++ tp_4 a).length = T.length + 4 := by rw [List.length_append]; rfl
    refine rt_n rfl ?_
    refine rt_gf rfl (fr_at F2 ho K) rfl rfl ?_
    refine rt_n rfl ?_
    refine rt_cv rfl (by decide) P2.1 rfl rfl rfl rfl (tp_four P2 (by omega) b) ?_
    rintro v h3 ⟨rfl, P3, F3⟩
    have l3 : ((T ++ tp_4 a) ++ tp_4 b).length = T.length + 8 := by rw [List.length_append, l2]; rfl
    have G3 := fr_tr F2 F3
    refine rt_n rfl ?_
    refine rt_gf rfl (fr_at G3 ho K) rfl rfl ?_
    refine rt_n rfl ?_
    refine rt_cv rfl (by decide) P3.1 rfl rfl rfl rfl (tp_four P3 (by omega) c) ?_
    rintro v h4 ⟨rfl, P4, F4⟩
    have l4 : (((T ++ tp_4 a) ++ tp_4 b) ++ tp_4 c).length = T.length + 12 := by rw [List.length_append, l3]; rfl
    have G4 := fr_tr G3 F4
    refine rt_n rfl ?_
    refine rt_gf rfl (fr_at G4 ho K) rfl rfl ?_
    refine rt_n rfl ?_
    refine rt_cv rfl (by decide) P4.1 rfl rfl rfl rfl (tp_four P4 (by omega) d) ?_
    rintro v h5 ⟨rfl, P5, F5⟩
    have l5 : ((((T ++ tp_4 a) ++ tp_4 b) ++ tp_4 c) ++ tp_4 d).length = T.length + 16 := by rw [List.length_append, l4]; rfl
    have G5 := fr_tr G4 F5
    refine rt_n rfl ?_
    refine rt_gf rfl (fr_at G5 ho K) rfl rfl ?_
    refine rt_n rfl ?_
    refine rt_cv rfl (by decide) P5.1 rfl rfl rfl rfl (tp_four P5 (by omega) e) ?_
    rintro v h6 ⟨rfl, P6, F6⟩
    have l6 : (((((T ++ tp_4 a) ++ tp_4 b) ++ tp_4 c) ++ tp_4 d) ++ tp_4 e).length = T.length + 20 := by rw [List.length_append, l5]; rfl
    have G6 := fr_tr G5 F6
    refine rt_n rfl ?_
    refine rt_gf rfl (fr_at G6 ho K) rfl rfl ?_
    refine rt_cv rfl (by decide) P6.1 rfl rfl rfl rfl (tp_size P6) ?_
    rintro v h7 ⟨rfl, rfl⟩
    refine rt_r (v := some (.int (nI (T.length + 20)))) (by rw [l6]; rfl) rfl ⟨fun _ => ⟨rfl, ?_, G6⟩, fun z => absurd hl z⟩
    rw [List.append_assoc, List.append_assoc, List.append_assoc, List.append_assoc] at P6
    exact P6
  · rw [if_neg hl]
    refine rt_n rfl ?_
    refine rt_n rfl ?_
    exact rt_r (v := some (.int (-3))) rfl rfl ⟨fun z => absurd z hl, fun _ => ⟨rfl, rfl⟩⟩
