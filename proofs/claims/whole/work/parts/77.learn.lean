/-! THE SOLVER, 5: what it learns of needs, breaks, roots. -/
abbrev sB : Nat → Prop := fun z => z = 9 ∨ z = 10 ∨ z = 11 ∨ z = 12 ∨ z = 13
theorem sB_zz : ∀ k, zz k → ¬ sB k := by intro k q; unfold zz at q; unfold sB; omega
theorem cI.fm {h h' : List va_E} {I : List kL} {nx : Nat} {A : Nat → Prop} (C : cI h I nx) (f : fr_ A h h') (h4 : ¬ A 4) (h5 : ¬ A 5) (hz : ∀ k, zz k → ¬ A k) : cI h' I nx := by
  obtain ⟨F, c4, c5, a, b, c⟩ := C
  exact ⟨F, fr_at f h4 c4, fr_at f h5 c5, a, b, c.ex (fr_ex f hz)⟩
theorem cR.fm {h h' : List va_E} {D : kD} {A : Nat → Prop} (C : cR h D) (f : fr_ A h h') (h6 : ¬ A 6) (h7 : ¬ A 7) (h8 : ¬ A 8) (hz : ∀ k, zz k → ¬ A k) : cR h' D := by
  obtain ⟨N, G, c1, c2, c3, c4, c5, c6⟩ := C
  exact ⟨N, G, fr_at f h6 c1, fr_at f h7 c2, fr_at f h8 c3, c4, c5, c6.ex (fr_ex f hz)⟩
theorem mem_ts {α : Type} {l : List α} {i : Nat} {e x : α} (h : l[i]? = some e) : x ∈ l.take (i + 1) ↔ x ∈ l.take i ∨ x = e := by
  rw [take_sn h, List.mem_append]
  simp
section SO5
variable {X : Nat × (Nat → Int32)} {d : Nat} {h : List va_E} {Q : Option Value → List va_E → Prop} {n G : Nat} {mem : Nat → Nat → Prop} {gn : Nat → Int64} {riv ned : Nat → Nat → Prop} {rg op : Nat → Prop} {li le so : Prop} {fo : Nat → Prop}
theorem sR.s9 (C : sR h n G mem gn riv ned rg op li le so fo) (rg' op' : Nat → Prop) (li' le' so' : Prop) (fo' : Nat → Prop) {x y z : Int32} (hx : x = tB li') (hy : y = tB le') (hz : z = tB so') {m1 m2 m3 : Int32} (h1 : m1 = msk rg') (h2 : m2 = msk op') (h3 : m3 = msk fo') : sR (h.set 9 (.inr (5, [.ref 4, .ref 6, .ref 10, .ref 11, .int (nI G), .ref 12, .ref 13, .int m1, .int m2, .int x, .int y, .int z, .int m3]))) n G mem gn riv ned rg' op' li' le' so' fo' := by
  obtain ⟨M, N, R, E, nx, c9, c10, c11, c12, c13, c4, hG, hn, HM, HR⟩ := id C
  subst hx; subst hy; subst hz; subst h1; subst h2; subst h3
  exact ⟨M, N, R, E, nx, hs_self c9, hs_ne c10 (by decide), hs_ne c11 (by decide), hs_ne c12 (by decide), hs_ne c13 (by decide), hs_ne c4 (by decide), hG, hn, HM, HR⟩
theorem sR.nd {ned' : Nat → Nat → Prop} {E' : Nat → Int32} (C : sR h n G mem gn riv ned rg op li le so fo) (hr : ∀ p, p < n → E' p = msk (ned' p)) : sR (h.set 13 (.inl (2, 32, .inl E'))) n G mem gn riv ned' rg op li le so fo := by
  obtain ⟨M, N, R, E, nx, c9, c10, c11, c12, c13, c4, hG, hn, HM, HR⟩ := id C
  exact ⟨M, N, R, E', nx, hs_ne c9 (by decide), hs_ne c10 (by decide), hs_ne c11 (by decide), hs_ne c12 (by decide), hs_self c13, hs_ne c4 (by decide), hG, hn, HM, fun p hp => ⟨(HR p hp).1, hr p hp⟩⟩
theorem sR.cg {riv' : Nat → Nat → Prop} (C : sR h n G mem gn riv ned rg op li le so fo) (hr : ∀ a, a < n → ∀ q, q < 32 → (riv a q ↔ riv' a q)) : sR h n G mem gn riv' ned rg op li le so fo := by
  obtain ⟨M, N, R, E, nx, c9, c10, c11, c12, c13, c4, hG, hn, HM, HR⟩ := id C
  exact ⟨M, N, R, E, nx, c9, c10, c11, c12, c13, c4, hG, hn, HM, fun p hp => ⟨by rw [(HR p hp).1]; exact msk_cg (hr p hp), (HR p hp).2⟩⟩
/-- rivals by the needs T, by the breaks T -/
def xNe (I : List kL) (G : Nat) (mem : Nat → Nat → Prop) (gn : Nat → Int64) (T : kD) (q : Nat) : Prop := ∃ e ∈ T, ∃ g, FG G gn (nmI e.1) g ∧ mem g q ∧ ¬ irS I mem g e.2 q
def xBr (I : List kL) (G : Nat) (mem : Nat → Nat → Prop) (gn : Nat → Int64) (T : kD) (q : Nat) : Prop := ∃ e ∈ T, ∃ g, FG G gn (nmI e.1) g ∧ irS I mem g e.2 q
theorem syR_or {p a q : Nat} {u v : Nat → Prop} : syR p (fun z => u z ∨ v z) a q ↔ syR p u a q ∨ syR p v a q := by
  unfold syR
  constructor
  · rintro (⟨a, b | b⟩ | ⟨a | a, b⟩)
    · exact Or.inl (Or.inl ⟨a, b⟩)
    · exact Or.inr (Or.inl ⟨a, b⟩)
    · exact Or.inl (Or.inr ⟨a, b⟩)
    · exact Or.inr (Or.inr ⟨a, b⟩)
  · rintro ((⟨a, b⟩ | ⟨a, b⟩) | (⟨a, b⟩ | ⟨a, b⟩))
    · exact Or.inl ⟨a, Or.inl b⟩
    · exact Or.inr ⟨Or.inl a, b⟩
    · exact Or.inl ⟨a, Or.inr b⟩
    · exact Or.inr ⟨Or.inr a, b⟩
theorem syR_cg {p a q : Nat} {u v : Nat → Prop} (e : ∀ z, u z ↔ v z) : syR p u a q ↔ syR p v a q := by
  rw [show u = v from funext fun z => propext (e z)]
theorem so_br1 {I : List kL} {nx p b nm rn cap : Nat} {Nn : Nat → Int64} {Gg : Nat → Option Nat} {T : kD} (hp : p < I.length) (i : Nat) (h : List va_E) (riv : Nat → Nat → Prop) (CI : cI h I nx) (CD : dD h b nm rn cap Nn Gg T) (hb : zz b ∧ zz nm ∧ zz rn) (C : sR h I.length G mem gn riv ned rg op li le so fo) (hi : i ≤ T.length) (B : Nat → Nat → Prop) (hr : ∀ a, a < I.length → ∀ q, q < 32 → (riv a q ↔ B a q ∨ syR p (xBr I G mem gn (T.take i)) a q)) (k : ∀ (h' : List va_E) (riv' : Nat → Nat → Prop) x y, fr_ sB h h' → sR h' I.length G mem gn riv' ned rg op li le so fo → (∀ a, a < I.length → ∀ q, q < 32 → (riv' a q ↔ B a q ∨ syR p (xBr I G mem gn T) a q)) → rt_ X (d + 4) 84 60 [some (.ref 9), some (.int (nI p)), some (.ref b), x, y] [] h' Q) (w : Option Value) : rt_ X (d + 4) 84 14 [some (.ref 9), some (.int (nI p)), some (.ref b), some (.int (nI i)), w] [] h Q := by
  obtain ⟨M, N, R, E, nx', c9, c10, c11, c12, c13, c4, hG, hn, HM, HR⟩ := id C
  obtain ⟨e1, e2, e3, e4, e5, e6⟩ := id CD
  refine rt_k (k := 2) (pc' := 16) (L' := [some (.ref 9), some (.int (nI p)), some (.ref b), some (.int (nI i)), w]) (st' := [.ref b, .int (nI i)]) (h' := h) (fun _ => rfl) ?_
  refine rt_cvE (v := some (.int (nI T.length))) (h' := h) rfl (by decide) e1 rfl rfl rfl rfl ?_ ?_
  · refine rt_n rfl ?_
    refine rt_gf rfl e1 rfl rfl ?_
    exact rt_r (v := some (.int (nI T.length))) rfl rfl ⟨rfl, rfl⟩
  refine rt_ige rfl (by omega) (by omega) (fun z => ?_) (fun z => ?_)
  · rw [List.take_of_length_le z] at hr
    exact k h riv _ _ fr_rf C hr
  obtain ⟨e, he⟩ := gt_ex z
  obtain ⟨u1, ra, u2, u3⟩ := e6 i e he
  refine rt_k (k := 3) (pc' := 25) (L' := [some (.ref 9), some (.int (nI p)), some (.ref b), some (.int (nI i)), w]) (st' := [.int (nI i), .ref b, .ref 9]) (h' := h) (fun _ => rfl) ?_
  refine rt_cvE (v := some (.long (nmI e.1))) (h' := h) rfl (by decide) e1 rfl rfl rfl rfl ?_ ?_
  · refine rt_n rfl ?_
    refine rt_gf rfl e1 rfl rfl ?_
    refine rt_n rfl ?_
    refine rt_lalN rfl e2 rfl (by omega) (by omega) u1 ?_
    exact rt_r (v := some (.long (nmI e.1))) rfl rfl ⟨rfl, rfl⟩
  refine rt_cvH rfl (by decide) c9 rfl rfl rfl rfl (so_groupOf C (nmI e.1)) ?_
  rintro _ (⟨g, hg, rfl⟩ | ⟨hno, rfl⟩)
  · have hg1 := hg.1
    refine rt_k (k := 1) (pc' := 33) (L' := [some (.ref 9), some (.int (nI p)), some (.ref b), some (.int (nI i)), some (.int (nI g))]) (st' := []) (h' := h) (fun _ => rfl) ?_
    refine rt_k (k := 1) (pc' := 35) (L' := [some (.ref 9), some (.int (nI p)), some (.ref b), some (.int (nI i)), some (.int (nI g))]) (st' := [.int (nI g)]) (h' := h) (fun _ => rfl) ?_
    refine rt_zlt rfl (by omega) ?_
    refine rt_k (k := 6) (pc' := 45) (L' := [some (.ref 9), some (.int (nI p)), some (.ref b), some (.int (nI i)), some (.int (nI g))]) (st' := [.int (nI i), .ref b, .int (nI g), .ref 9, .int (nI p), .ref 9]) (h' := h) (fun _ => rfl) ?_
    refine rt_cvE (v := some (.ref ra)) (h' := h) rfl (by decide) e1 rfl rfl rfl rfl ?_ ?_
    · refine rt_k (k := 1) (pc' := 1) (L' := [some (.ref b), some (.int (nI i))]) (st' := [.ref b]) (h' := h) (fun _ => rfl) ?_
      refine rt_gf rfl e1 rfl rfl ?_
      refine rt_k (k := 1) (pc' := 5) (L' := [some (.ref b), some (.int (nI i))]) (st' := [.int (nI i), .ref rn]) (h' := h) (fun _ => rfl) ?_
      refine rt_aalN rfl e3 rfl (by omega) (by omega) u2 ?_
      exact rt_r (v := some (.ref ra)) rfl rfl ⟨rfl, rfl⟩
    refine rt_cvE rfl (by decide) c9 rfl rfl rfl rfl (so_inRange CI C u3 hg1) ?_
    refine rt_cv rfl (by decide) c9 rfl rfl rfl rfl (so_addRivals C p hp _) ?_
    rintro _ h1 ⟨rfl, f1, riv1, C1, hr1⟩
    have hz : ∀ k, zz k → ¬ (fun z => z = 12) k := by intro k q; unfold zz at q; omega
    have E1 := fr_ex f1 hz
    have CD1 : dD h1 b nm rn cap Nn Gg T := ⟨(E1 _ _ ⟨hb.1, e1⟩).2, (E1 _ _ ⟨hb.2.1, e2⟩).2, (E1 _ _ ⟨hb.2.2, e3⟩).2, e4, e5, e6.ex E1⟩
    refine rt_inc (c := 1) rfl rfl ?_
    refine rt_k (k := 1) (pc' := 14) (L' := [some (.ref 9), some (.int (nI p)), some (.ref b), some (.int (nI (i + 1))), some (.int (nI g))]) (st' := []) (h' := h1) (fun _ => rfl) ?_
    refine so_br1 hp (i + 1) h1 riv1 (CI.fm f1 (by decide) (by decide) hz) CD1 hb C1 z B (fun a ha q hq => ?_) (fun h' riv' x y f2 => k h' riv' x y (fr_tr (fr_mo f1 (fun k q => by unfold sB; omega)) f2)) _
    rw [hr1 a ha q hq, hr a ha q hq, or_assoc, ← syR_or]
    refine or_congr Iff.rfl (syR_cg (fun z => ?_))
    unfold xBr
    constructor
    · rintro (⟨e', h1, h2⟩ | h1)
      · exact ⟨e', (mem_ts he).mpr (Or.inl h1), h2⟩
      · exact ⟨e, (mem_ts he).mpr (Or.inr rfl), g, hg, h1⟩
    · rintro ⟨e', h1, g', h2, h3⟩
      rcases (mem_ts he).mp h1 with h1 | h1
      · exact Or.inl ⟨e', h1, g', h2, h3⟩
      · subst h1
        have : g' = g := by
          rcases Nat.lt_trichotomy g' g with q | q | q
          · exact absurd h2.2.1 (hg.2.2 g' q)
          · exact q
          · exact absurd hg.2.1 (h2.2.2 g q)
        subst this
        exact Or.inr h3
  · refine rt_k (k := 3) (pc' := 54) (L' := [some (.ref 9), some (.int (nI p)), some (.ref b), some (.int (nI i)), some (.int (-1))]) (st' := []) (h' := h) (fun _ => rfl) ?_
    refine rt_inc (c := 1) rfl rfl ?_
    refine rt_n rfl ?_
    refine so_br1 hp (i + 1) h riv CI CD hb C z B (fun a ha q hq => ?_) k _
    rw [hr a ha q hq]
    refine or_congr Iff.rfl (syR_cg (fun z => ?_))
    unfold xBr
    constructor
    · rintro ⟨e', h1, h2⟩
      exact ⟨e', (mem_ts he).mpr (Or.inl h1), h2⟩
    · rintro ⟨e', h1, g', h2, h3⟩
      rcases (mem_ts he).mp h1 with h1 | h1
      · exact ⟨e', h1, g', h2, h3⟩
      · subst h1
        exact absurd h2.2.1 (hno g' h2.1)
termination_by T.length - i
theorem zL.at {a : Nat} {r : kL} (C : zL h a r) : ∃ (v nd bk ps : Nat), h[a]? = some (.inr (9, [.int (nI (lNo r)), .long (nmI (lNm r)), .ref v, .ref nd, .ref bk, .ref ps, .int (nI (lOw r).length)])) ∧ zV h v (lVe r) ∧ zD h nd 6 (lNe r) ∧ zD h bk 3 (lBr r) := by
  obtain ⟨v, nd, bk, ps, pf, c1, c2, c3, c4, -⟩ := C
  exact ⟨v, nd, bk, ps, c1.2, c2, c3, c4⟩
theorem zD.de {a cap : Nat} {D : kD} (C : zD h a cap D) : ∃ nm rn N G, (zz a ∧ zz nm ∧ zz rn) ∧ dD h a nm rn cap N G D := by
  obtain ⟨nm, rg, N, G, c1, c2, c3, c4, c5, c6⟩ := C
  exact ⟨nm, rg, N, G, ⟨c1.1, c2.1, c3.1⟩, c1.2, c2.2, c3.2, c4, c5, c6⟩
theorem so_breaks {I : List kL} {nx p : Nat} {r : kL} (CI : cI h I nx) (C : sR h I.length G mem gn riv ned rg op li le so fo) (hr : I[p]? = some r) : rt_ X (d + 4) 84 0 [some (.ref 9), some (.int (nI p)), none, none, none] [] h (fun v h' => v = none ∧ fr_ sB h h' ∧ ∃ riv', sR h' I.length G mem gn riv' ned rg op li le so fo ∧ ∀ a, a < I.length → ∀ q, q < 32 → (riv' a q ↔ riv a q ∨ syR p (xBr I G mem gn (lBr r)) a q)) := by
  obtain ⟨F, d4, d5, -, -, HI⟩ := id CI
  obtain ⟨M, N, Rv, E, nx', c9, c10, c11, c12, c13, c4, hG, hn, HM, HR⟩ := id C
  obtain ⟨a, fa, za⟩ := HI p r hr
  obtain ⟨v, nd, bk, ps, ca, -, -, zb⟩ := za.at
  obtain ⟨nm, rn, Nn, Gg, hz, CD⟩ := zb.de
  have hp := gt_lt hr
  refine rt_k (k := 1) (pc' := 1) (L' := [some (.ref 9), some (.int (nI p)), none, none, none]) (st' := [.ref 9]) (h' := h) (fun _ => rfl) ?_
  refine rt_gf rfl c9 rfl rfl ?_
  refine rt_k (k := 1) (pc' := 5) (L' := [some (.ref 9), some (.int (nI p)), none, none, none]) (st' := [.int (nI p), .ref 4]) (h' := h) (fun _ => rfl) ?_
  refine rt_cvE (v := some (.ref a)) (h' := h) rfl (by decide) d4 rfl rfl rfl rfl ?_ ?_
  · refine rt_k (k := 1) (pc' := 1) (L' := [some (.ref 4), some (.int (nI p))]) (st' := [.ref 4]) (h' := h) (fun _ => rfl) ?_
    refine rt_gf rfl d4 rfl rfl ?_
    refine rt_k (k := 1) (pc' := 5) (L' := [some (.ref 4), some (.int (nI p))]) (st' := [.int (nI p), .ref 5]) (h' := h) (fun _ => rfl) ?_
    refine rt_aalN rfl d5 rfl (by omega) (by decide) fa ?_
    exact rt_r (v := some (.ref a)) rfl rfl ⟨rfl, rfl⟩
  refine rt_gf rfl ca rfl rfl ?_
  refine rt_k (k := 3) (pc' := 14) (L' := [some (.ref 9), some (.int (nI p)), some (.ref bk), some (.int (nI 0)), none]) (st' := []) (h' := h) (fun _ => rfl) ?_
  refine so_br1 hp 0 h riv CI CD hz C (Nat.zero_le _) riv (fun a ha q hq => ⟨Or.inl, fun w => w.elim id (fun w => ?_)⟩) (fun h' riv' x y f1 C1 hr1 => ?_) _
  · rcases w with ⟨-, e, h1, -⟩ | ⟨⟨e, h1, -⟩, -⟩ <;> cases h1
  · exact rt_r (v := none) rfl rfl ⟨rfl, f1, riv', C1, hr1⟩
theorem FG_un {G : Nat} {gn : Nat → Int64} {x : Int64} {g g' : Nat} (h1 : FG G gn x g) (h2 : FG G gn x g') : g' = g := by
  rcases Nat.lt_trichotomy g' g with q | q | q
  · exact absurd h2.2.1 (h1.2.2 g' q)
  · exact q
  · exact absurd h1.2.1 (h2.2.2 g q)
def noG (G : Nat) (gn : Nat → Int64) (T : kD) : Prop := ∃ e ∈ T, ∀ g, g < G → ¬ gn g = nmI e.1
def neG (G : Nat) (gn : Nat → Int64) (T : kD) (g : Nat) : Prop := ∃ e ∈ T, FG G gn (nmI e.1) g
theorem so_ne1 {I : List kL} {nx p b nm rn cap : Nat} {Nn : Nat → Int64} {Gg : Nat → Option Nat} {T : kD} (hp : p < I.length) (op0 : Nat → Prop) (B nd0 : Nat → Nat → Prop) (i : Nat) (h : List va_E) (riv ned : Nat → Nat → Prop) (op : Nat → Prop) (CI : cI h I nx) (CD : dD h b nm rn cap Nn Gg T) (hb : zz b ∧ zz nm ∧ zz rn) (C : sR h I.length G mem gn riv ned rg op li le so fo) (hi : i ≤ T.length) (hr : ∀ a, a < I.length → ∀ q, q < 32 → (riv a q ↔ B a q ∨ syR p (xNe I G mem gn (T.take i)) a q)) (ho : ∀ q, q < 32 → (op q ↔ op0 q ∧ ¬ (q = p ∧ noG G gn (T.take i)))) (hd : ∀ a, a < I.length → ∀ g, g < 32 → (ned a g ↔ nd0 a g ∨ (a = p ∧ neG G gn (T.take i) g))) (k : ∀ (h' : List va_E) (riv' ned' : Nat → Nat → Prop) (op' : Nat → Prop) x y, fr_ sB h h' → sR h' I.length G mem gn riv' ned' rg op' li le so fo → (∀ a, a < I.length → ∀ q, q < 32 → (riv' a q ↔ B a q ∨ syR p (xNe I G mem gn T) a q)) → (∀ q, q < 32 → (op' q ↔ op0 q ∧ ¬ (q = p ∧ noG G gn T))) → (∀ a, a < I.length → ∀ g, g < 32 → (ned' a g ↔ nd0 a g ∨ (a = p ∧ neG G gn T g))) → rt_ X (d + 4) 76 100 [some (.ref 9), some (.int (nI p)), some (.ref b), x, y] [] h' Q) (w : Option Value) : rt_ X (d + 4) 76 14 [some (.ref 9), some (.int (nI p)), some (.ref b), some (.int (nI i)), w] [] h Q := by
  obtain ⟨M, N, R, E, nx', c9, c10, c11, c12, c13, c4, hG, hn, HM, HR⟩ := id C
  obtain ⟨e1, e2, e3, e4, e5, e6⟩ := id CD
  refine rt_k (k := 2) (pc' := 16) (L' := [some (.ref 9), some (.int (nI p)), some (.ref b), some (.int (nI i)), w]) (st' := [.ref b, .int (nI i)]) (h' := h) (fun _ => rfl) ?_
  refine rt_cvE (v := some (.int (nI T.length))) (h' := h) rfl (by decide) e1 rfl rfl rfl rfl ?_ ?_
  · refine rt_k (k := 1) (pc' := 1) (L' := [some (.ref b)]) (st' := [.ref b]) (h' := h) (fun _ => rfl) ?_
    refine rt_gf rfl e1 rfl rfl ?_
    exact rt_r (v := some (.int (nI T.length))) rfl rfl ⟨rfl, rfl⟩
  refine rt_ige rfl (by omega) (by omega) (fun z => ?_) (fun z => ?_)
  ·
    rw [List.take_of_length_le z] at hr ho hd
    exact k h riv ned op _ _ fr_rf C hr ho hd
  obtain ⟨e, he⟩ := gt_ex z
  obtain ⟨u1, ra, u2, u3⟩ := e6 i e he
  have hbn : ¬ b = 9 ∧ ¬ nm = 9 ∧ ¬ rn = 9 ∧ ¬ b = 13 ∧ ¬ nm = 13 ∧ ¬ rn = 13 := by obtain ⟨q1, q2, q3⟩ := hb; unfold zz at q1 q2 q3; omega
  refine rt_k (k := 3) (pc' := 25) (L' := [some (.ref 9), some (.int (nI p)), some (.ref b), some (.int (nI i)), w]) (st' := [.int (nI i), .ref b, .ref 9]) (h' := h) (fun _ => rfl) ?_
  refine rt_cvE (v := some (.long (nmI e.1))) (h' := h) rfl (by decide) e1 rfl rfl rfl rfl ?_ ?_
  · refine rt_k (k := 1) (pc' := 1) (L' := [some (.ref b), some (.int (nI i))]) (st' := [.ref b]) (h' := h) (fun _ => rfl) ?_
    refine rt_gf rfl e1 rfl rfl ?_
    refine rt_k (k := 1) (pc' := 5) (L' := [some (.ref b), some (.int (nI i))]) (st' := [.int (nI i), .ref nm]) (h' := h) (fun _ => rfl) ?_
    refine rt_lalN rfl e2 rfl (by omega) (by omega) u1 ?_
    exact rt_r (v := some (.long (nmI e.1))) rfl rfl ⟨rfl, rfl⟩
  refine rt_cvH rfl (by decide) c9 rfl rfl rfl rfl (so_groupOf C (nmI e.1)) ?_
  rintro _ (⟨g, hg, rfl⟩ | ⟨hno, rfl⟩)
  ·
    have hg1 := hg.1
    refine rt_k (k := 2) (pc' := 35) (L' := [some (.ref 9), some (.int (nI p)), some (.ref b), some (.int (nI i)), some (.int (nI g))]) (st' := [.int (nI g)]) (h' := h) (fun _ => rfl) ?_
    refine rt_zge rfl (by omega) ?_
    refine rt_k (k := 1) (pc' := 56) (L' := [some (.ref 9), some (.int (nI p)), some (.ref b), some (.int (nI i)), some (.int (nI g))]) (st' := [.ref 9]) (h' := h) (fun _ => rfl) ?_
    refine rt_gf rfl c9 rfl rfl ?_
    refine rt_k (k := 2) (pc' := 61) (L' := [some (.ref 9), some (.int (nI p)), some (.ref b), some (.int (nI i)), some (.int (nI g))]) (st' := [.int (nI p), .ref 13, .int (nI p), .ref 13]) (h' := h) (fun _ => rfl) ?_
    refine rt_ialN rfl c13 rfl (by omega) (by decide) ((HR p hp).2) ?_
    refine rt_k (k := 2) (pc' := 65) (L' := [some (.ref 9), some (.int (nI p)), some (.ref b), some (.int (nI i)), some (.int (nI g))]) (st' := [.int (nI g), .int (nI 1), .int (msk (ned p)), .int (nI p), .ref 13]) (h' := h) (fun _ => rfl) ?_
    refine rt_mbit rfl (by omega) ?_
    refine rt_mor rfl ?_
    refine rt_iasN rfl c13 rfl (by omega) (by decide) ?_
    have f_1 : fr_ (sB) h (h.set 13 (.inl (2, 32, .inl (upd E p (msk (fun ι => (ned p) ι ∨ (ι = g))))))) := fr_set (e' := .inl (2, 32, .inl (upd E p (msk (fun ι => (ned p) ι ∨ (ι = g)))))) c13 (by rfl) (by first | decide | simp)
    have x_2 : ex_ h (h.set 13 (.inl (2, 32, .inl (upd E p (msk (fun ι => (ned p) ι ∨ (ι = g))))))) := ex_set (e := .inl (2, 32, .inl (upd E p (msk (fun ι => (ned p) ι ∨ (ι = g)))))) (by unfold zz; omega)
    have c_3 := hs_ne (a := 13) (e' := .inl (2, 32, .inl (upd E p (msk (fun ι => (ned p) ι ∨ (ι = g)))))) c9 (by decide)
    have c_4 := hs_ne (a := 13) (e' := .inl (2, 32, .inl (upd E p (msk (fun ι => (ned p) ι ∨ (ι = g)))))) e1 (hc_ne c13 e1 (by intro q; cases q))
    have c_5 := hs_ne (a := 13) (e' := .inl (2, 32, .inl (upd E p (msk (fun ι => (ned p) ι ∨ (ι = g)))))) e2 (hc_ne c13 e2 (by intro q; cases q))
    have c_6 := hs_ne (a := 13) (e' := .inl (2, 32, .inl (upd E p (msk (fun ι => (ned p) ι ∨ (ι = g)))))) e3 (hc_ne c13 e3 (by intro q; cases q))
    have c_7 := hs_ne (a := 13) (e' := .inl (2, 32, .inl (upd E p (msk (fun ι => (ned p) ι ∨ (ι = g)))))) c10 (by decide)
    have c_8 := hs_self (e' := .inl (2, 32, .inl (upd E p (msk (fun ι => (ned p) ι ∨ (ι = g)))))) c13
    have C1 : sR (h.set 13 (.inl (2, 32, .inl (upd E p (msk (fun ι => (ned p) ι ∨ (ι = g))))))) I.length G mem gn riv (fun a x => ned a x ∨ (a = p ∧ x = g)) rg op li le so fo := C.nd (fun a ha => by
      unfold upd
      by_cases q : a = p
      · rw [if_pos q]; subst q; exact msk_cg (fun x hx => ⟨fun w => w.imp id (fun w => ⟨rfl, w⟩), fun w => w.imp id (fun w => w.2)⟩)
      · rw [if_neg q, (HR a ha).2]; exact msk_cg (fun x hx => ⟨Or.inl, fun w => w.elim id (fun w => absurd w.1 q)⟩))
    have CI1 := CI.fm f_1 (by decide) (by decide) sB_zz
    have u3' := u3.ex x_2
    have f0 := f_1
    have CD1 : dD (h.set 13 (.inl (2, 32, .inl (upd E p (msk (fun ι => (ned p) ι ∨ (ι = g))))))) b nm rn cap Nn Gg T := ⟨c_4, c_5, c_6, e4, e5, e6.ex x_2⟩
    refine rt_k (k := 3) (pc' := 71) (L' := [some (.ref 9), some (.int (nI p)), some (.ref b), some (.int (nI i)), some (.int (nI g))]) (st' := [.ref 9, .int (nI p), .ref 9]) (h' := (h.set 13 (.inl (2, 32, .inl (upd E p (msk (fun ι => (ned p) ι ∨ (ι = g)))))))) (fun _ => rfl) ?_
    refine rt_gf rfl c_3 rfl rfl ?_
    refine rt_k (k := 1) (pc' := 76) (L' := [some (.ref 9), some (.int (nI p)), some (.ref b), some (.int (nI i)), some (.int (nI g))]) (st' := [.int (nI g), .ref 10, .int (nI p), .ref 9]) (h' := (h.set 13 (.inl (2, 32, .inl (upd E p (msk (fun ι => (ned p) ι ∨ (ι = g)))))))) (fun _ => rfl) ?_
    refine rt_ialN rfl c_7 rfl (by omega) (by decide) ((HM g hg1).1) ?_
    refine rt_k (k := 4) (pc' := 82) (L' := [some (.ref 9), some (.int (nI p)), some (.ref b), some (.int (nI i)), some (.int (nI g))]) (st' := [.int (nI i), .ref b, .int (nI g), .ref 9, .int (msk (mem g)), .int (nI p), .ref 9]) (h' := (h.set 13 (.inl (2, 32, .inl (upd E p (msk (fun ι => (ned p) ι ∨ (ι = g)))))))) (fun _ => rfl) ?_
    refine rt_cvE (v := some (.ref ra)) (h' := (h.set 13 (.inl (2, 32, .inl (upd E p (msk (fun ι => (ned p) ι ∨ (ι = g)))))))) rfl (by decide) c_4 rfl rfl rfl rfl ?_ ?_
    · refine rt_k (k := 1) (pc' := 1) (L' := [some (.ref b), some (.int (nI i))]) (st' := [.ref b]) (h' := (h.set 13 (.inl (2, 32, .inl (upd E p (msk (fun ι => (ned p) ι ∨ (ι = g)))))))) (fun _ => rfl) ?_
      refine rt_gf rfl c_4 rfl rfl ?_
      refine rt_k (k := 1) (pc' := 5) (L' := [some (.ref b), some (.int (nI i))]) (st' := [.int (nI i), .ref rn]) (h' := (h.set 13 (.inl (2, 32, .inl (upd E p (msk (fun ι => (ned p) ι ∨ (ι = g)))))))) (fun _ => rfl) ?_
      refine rt_aalN rfl c_6 rfl (by omega) (by omega) u2 ?_
      exact rt_r (v := some (.ref ra)) rfl rfl ⟨rfl, rfl⟩
    refine rt_cvE rfl (by decide) c_3 rfl rfl rfl rfl (so_inRange CI1 C1 u3' hg1) ?_
    refine rt_k (k := 1) (pc' := 89) (L' := [some (.ref 9), some (.int (nI p)), some (.ref b), some (.int (nI i)), some (.int (nI g))]) (st' := [.int (-1), .int (msk (irS I mem g e.2)), .int (msk (mem g)), .int (nI p), .ref 9]) (h' := (h.set 13 (.inl (2, 32, .inl (upd E p (msk (fun ι => (ned p) ι ∨ (ι = g)))))))) (fun _ => rfl) ?_
    refine rt_mnot rfl ?_
    refine rt_mand rfl ?_
    refine rt_cv rfl (by decide) c_3 rfl rfl rfl rfl (so_addRivals C1 p hp _) ?_
    rintro _ h1 ⟨rfl, f1, riv1, C2, hr1⟩
    have hz : ∀ k, zz k → ¬ (fun z => z = 12) k := by intro k q; unfold zz at q; omega
    have E1 := fr_ex f1 hz
    have CD2 : dD h1 b nm rn cap Nn Gg T := ⟨(E1 _ _ ⟨hb.1, CD1.1⟩).2, (E1 _ _ ⟨hb.2.1, CD1.2.1⟩).2, (E1 _ _ ⟨hb.2.2, CD1.2.2.1⟩).2, e4, e5, CD1.2.2.2.2.2.ex E1⟩
    refine rt_inc (c := 1) rfl rfl ?_
    refine rt_k (k := 1) (pc' := 14) (L' := [some (.ref 9), some (.int (nI p)), some (.ref b), some (.int (nI (i + 1))), some (.int (nI g))]) (st' := []) (h' := h1) (fun _ => rfl) ?_
    refine so_ne1 hp op0 B nd0 (i + 1) h1 riv1 _ op (CI1.fm f1 (by decide) (by decide) hz) CD2 hb C2 z (fun a ha q hq => ?_) (fun q hq => ?_) (fun a ha x hx => ?_) (fun h' riv' ned' op' x y f2 => k h' riv' ned' op' x y (fr_tr f0 (fr_tr (fr_mo f1 (fun k q => by unfold sB; omega)) f2))) _
    · rw [hr1 a ha q hq, hr a ha q hq, or_assoc, ← syR_or]
      refine or_congr Iff.rfl (syR_cg (fun z => ?_))
      unfold xNe
      constructor
      · rintro (⟨e', h1, h2⟩ | h1)
        · exact ⟨e', (mem_ts he).mpr (Or.inl h1), h2⟩
        · exact ⟨e, (mem_ts he).mpr (Or.inr rfl), g, hg, h1⟩
      · rintro ⟨e', h1, g', h2, h3⟩
        rcases (mem_ts he).mp h1 with h1 | h1
        · exact Or.inl ⟨e', h1, g', h2, h3⟩
        · subst h1
          rw [FG_un hg h2] at h3
          exact Or.inr h3
    · rw [ho q hq]
      refine and_congr Iff.rfl (not_congr (and_congr Iff.rfl ⟨fun ⟨e', h1, h2⟩ => ⟨e', (mem_ts he).mpr (Or.inl h1), h2⟩, fun ⟨e', h1, h2⟩ => ?_⟩))
      rcases (mem_ts he).mp h1 with h1 | h1
      · exact ⟨e', h1, h2⟩
      · subst h1; exact absurd hg.2.1 (h2 g hg.1)
    · show ned a x ∨ (a = p ∧ x = g) ↔ _
      rw [hd a ha x hx, or_assoc]
      refine or_congr Iff.rfl ⟨?_, ?_⟩
      · rintro (⟨h1, e', h2, h3⟩ | ⟨h1, h2⟩)
        · exact ⟨h1, e', (mem_ts he).mpr (Or.inl h2), h3⟩
        · subst h2; exact ⟨h1, e, (mem_ts he).mpr (Or.inr rfl), hg⟩
      · rintro ⟨h1, e', h2, h3⟩
        rcases (mem_ts he).mp h2 with h2 | h2
        · exact Or.inl ⟨h1, e', h2, h3⟩
        · subst h2; exact Or.inr ⟨h1, FG_un hg h3⟩
  refine rt_k (k := 5) (pc' := 40) (L' := [some (.ref 9), some (.int (nI p)), some (.ref b), some (.int (nI i)), some (.int (-1))]) (st' := [.ref 9, .ref 9]) (h' := h) (fun _ => rfl) ?_
  refine rt_gf rfl c9 rfl rfl ?_
  refine rt_k (k := 2) (pc' := 45) (L' := [some (.ref 9), some (.int (nI p)), some (.ref b), some (.int (nI i)), some (.int (-1))]) (st' := [.int (nI p), .int (nI 1), .int (msk op), .ref 9]) (h' := h) (fun _ => rfl) ?_
  refine rt_mbit rfl (by omega) ?_
  refine rt_k (k := 1) (pc' := 47) (L' := [some (.ref 9), some (.int (nI p)), some (.ref b), some (.int (nI i)), some (.int (-1))]) (st' := [.int (-1), .int (msk (fun ι => ι = p)), .int (msk op), .ref 9]) (h' := h) (fun _ => rfl) ?_
  refine rt_mnot rfl ?_
  refine rt_mand rfl ?_
  refine rt_pf rfl c9 ⟨rfl, (show 8 < 13 by decide), rfl⟩ ?_
  have f_9 : fr_ (sB) h (h.set 9 (.inr (5, [.ref 4, .ref 6, .ref 10, .ref 11, .int (nI G), .ref 12, .ref 13, .int (msk rg), .int (msk (fun ι => op ι ∧ (¬ (ι = p)))), .int (tB li), .int (tB le), .int (tB so), .int (msk fo)]))) := fr_set (e' := .inr (5, [.ref 4, .ref 6, .ref 10, .ref 11, .int (nI G), .ref 12, .ref 13, .int (msk rg), .int (msk (fun ι => op ι ∧ (¬ (ι = p)))), .int (tB li), .int (tB le), .int (tB so), .int (msk fo)])) c9 (by rfl) (by first | decide | simp)
  have x_10 : ex_ h (h.set 9 (.inr (5, [.ref 4, .ref 6, .ref 10, .ref 11, .int (nI G), .ref 12, .ref 13, .int (msk rg), .int (msk (fun ι => op ι ∧ (¬ (ι = p)))), .int (tB li), .int (tB le), .int (tB so), .int (msk fo)]))) := ex_set (e := .inr (5, [.ref 4, .ref 6, .ref 10, .ref 11, .int (nI G), .ref 12, .ref 13, .int (msk rg), .int (msk (fun ι => op ι ∧ (¬ (ι = p)))), .int (tB li), .int (tB le), .int (tB so), .int (msk fo)])) (by unfold zz; omega)
  have c_11 := hs_ne (a := 9) (e' := .inr (5, [.ref 4, .ref 6, .ref 10, .ref 11, .int (nI G), .ref 12, .ref 13, .int (msk rg), .int (msk (fun ι => op ι ∧ (¬ (ι = p)))), .int (tB li), .int (tB le), .int (tB so), .int (msk fo)])) e1 (hc_ne c9 e1 (by intro q; cases q))
  have c_12 := hs_ne (a := 9) (e' := .inr (5, [.ref 4, .ref 6, .ref 10, .ref 11, .int (nI G), .ref 12, .ref 13, .int (msk rg), .int (msk (fun ι => op ι ∧ (¬ (ι = p)))), .int (tB li), .int (tB le), .int (tB so), .int (msk fo)])) e2 (hc_ne c9 e2 (by intro q; cases q))
  have c_13 := hs_ne (a := 9) (e' := .inr (5, [.ref 4, .ref 6, .ref 10, .ref 11, .int (nI G), .ref 12, .ref 13, .int (msk rg), .int (msk (fun ι => op ι ∧ (¬ (ι = p)))), .int (tB li), .int (tB le), .int (tB so), .int (msk fo)])) e3 (hc_ne c9 e3 (by intro q; cases q))
  have c_14 := hs_ne (a := 9) (e' := .inr (5, [.ref 4, .ref 6, .ref 10, .ref 11, .int (nI G), .ref 12, .ref 13, .int (msk rg), .int (msk (fun ι => op ι ∧ (¬ (ι = p)))), .int (tB li), .int (tB le), .int (tB so), .int (msk fo)])) c10 (by decide)
  have c_15 := hs_ne (a := 9) (e' := .inr (5, [.ref 4, .ref 6, .ref 10, .ref 11, .int (nI G), .ref 12, .ref 13, .int (msk rg), .int (msk (fun ι => op ι ∧ (¬ (ι = p)))), .int (tB li), .int (tB le), .int (tB so), .int (msk fo)])) c13 (by decide)
  have c_16 := hs_self (e' := .inr (5, [.ref 4, .ref 6, .ref 10, .ref 11, .int (nI G), .ref 12, .ref 13, .int (msk rg), .int (msk (fun ι => op ι ∧ (¬ (ι = p)))), .int (tB li), .int (tB le), .int (tB so), .int (msk fo)])) c9
  refine rt_k (k := 1) (pc' := 94) (L' := [some (.ref 9), some (.int (nI p)), some (.ref b), some (.int (nI i)), some (.int (-1))]) (st' := []) (h' := (h.set 9 (.inr (5, [.ref 4, .ref 6, .ref 10, .ref 11, .int (nI G), .ref 12, .ref 13, .int (msk rg), .int (msk (fun ι => op ι ∧ (¬ (ι = p)))), .int (tB li), .int (tB le), .int (tB so), .int (msk fo)])))) (fun _ => rfl) ?_
  refine rt_inc (c := 1) rfl rfl ?_
  refine rt_k (k := 1) (pc' := 14) (L' := [some (.ref 9), some (.int (nI p)), some (.ref b), some (.int (nI (i + 1))), some (.int (-1))]) (st' := []) (h' := (h.set 9 (.inr (5, [.ref 4, .ref 6, .ref 10, .ref 11, .int (nI G), .ref 12, .ref 13, .int (msk rg), .int (msk (fun ι => op ι ∧ (¬ (ι = p)))), .int (tB li), .int (tB le), .int (tB so), .int (msk fo)])))) (fun _ => rfl) ?_
  have C1 : sR (h.set 9 (.inr (5, [.ref 4, .ref 6, .ref 10, .ref 11, .int (nI G), .ref 12, .ref 13, .int (msk rg), .int (msk (fun ι => op ι ∧ (¬ (ι = p)))), .int (tB li), .int (tB le), .int (tB so), .int (msk fo)]))) I.length G mem gn riv ned rg (fun q => op q ∧ ¬ q = p) li le so fo := C.s9 rg _ li le so fo rfl rfl rfl rfl rfl rfl
  have CI1 := CI.fm f_9 (by decide) (by decide) sB_zz
  have f0 := f_9
  have CD1 : dD (h.set 9 (.inr (5, [.ref 4, .ref 6, .ref 10, .ref 11, .int (nI G), .ref 12, .ref 13, .int (msk rg), .int (msk (fun ι => op ι ∧ (¬ (ι = p)))), .int (tB li), .int (tB le), .int (tB so), .int (msk fo)]))) b nm rn cap Nn Gg T := ⟨c_11, c_12, c_13, e4, e5, e6.ex x_10⟩
  refine so_ne1 hp op0 B nd0 (i + 1) _ riv ned _ CI1 CD1 hb C1 z (fun a ha q hq => ?_) (fun q hq => ?_) (fun a ha x hx => ?_) (fun h' riv' ned' op' x y f2 => k h' riv' ned' op' x y (fr_tr f0 f2)) _
  · rw [hr a ha q hq]
    refine or_congr Iff.rfl (syR_cg (fun z => ?_))
    unfold xNe
    constructor
    · rintro ⟨e', h1, h2⟩
      exact ⟨e', (mem_ts he).mpr (Or.inl h1), h2⟩
    · rintro ⟨e', h1, g', h2, h3⟩
      rcases (mem_ts he).mp h1 with h1 | h1
      · exact ⟨e', h1, g', h2, h3⟩
      · subst h1
        exact absurd h2.2.1 (hno g' h2.1)
  · show op q ∧ ¬ q = p ↔ _
    rw [ho q hq, and_assoc]
    refine and_congr Iff.rfl ⟨fun w w2 => w.2 w2.1, fun w => ⟨fun w2 => w ⟨w2.1, ?_⟩, fun w2 => w ⟨w2, e, (mem_ts he).mpr (Or.inr rfl), hno⟩⟩⟩
    obtain ⟨-, e', h1, h2⟩ := w2
    exact ⟨e', (mem_ts he).mpr (Or.inl h1), h2⟩
  · rw [hd a ha x hx]
    refine or_congr Iff.rfl (and_congr Iff.rfl ⟨fun ⟨e', h2, h3⟩ => ⟨e', (mem_ts he).mpr (Or.inl h2), h3⟩, fun ⟨e', h2, h3⟩ => ?_⟩)
    rcases (mem_ts he).mp h2 with h2 | h2
    · exact ⟨e', h2, h3⟩
    · subst h2; exact absurd h3.2.1 (hno x h3.1)
termination_by T.length - i
end SO5

