/-! THE SOLVER, 6: all of a place's needs; the roots. -/
section SO6
variable {X : Nat × (Nat → Int32)} {d : Nat} {h : List va_E} {Q : Option Value → List va_E → Prop} {n G : Nat} {mem : Nat → Nat → Prop} {gn : Nat → Int64} {riv ned : Nat → Nat → Prop} {rg op : Nat → Prop} {li le so : Prop} {fo : Nat → Prop}
def xOw (G : Nat) (mem : Nat → Nat → Prop) (gn : Nat → Int64) (r : kL) (p q : Nat) : Prop := ∃ g, FG G gn (nmI (lNm r)) g ∧ mem g q ∧ ¬ q = p
theorem so_needs {I : List kL} {nx p : Nat} {r : kL} (CI : cI h I nx) (C : sR h I.length G mem gn riv ned rg op li le so fo) (hr : I[p]? = some r) : rt_ X (d + 4) 76 0 [some (.ref 9), some (.int (nI p)), none, none, none] [] h (fun v h' => v = none ∧ fr_ sB h h' ∧ ∃ riv' ned' op', sR h' I.length G mem gn riv' ned' rg op' li le so fo ∧ (∀ a, a < I.length → ∀ q, q < 32 → (riv' a q ↔ riv a q ∨ syR p (fun q => xNe I G mem gn (lNe r) q ∨ xOw G mem gn r p q) a q)) ∧ (∀ q, q < 32 → (op' q ↔ op q ∧ ¬ (q = p ∧ noG G gn (lNe r)))) ∧ ∀ a, a < I.length → ∀ g, g < 32 → (ned' a g ↔ ned a g ∨ (a = p ∧ neG G gn (lNe r) g))) := by
  obtain ⟨F, d4, d5, -, -, HI⟩ := id CI
  obtain ⟨M, N, Rv, E, nx', c9, c10, c11, c12, c13, c4, hG, hn, HM, HR⟩ := id C
  obtain ⟨a, fa, za⟩ := HI p r hr
  obtain ⟨v, nd, bk, ps, ca, -, zb, -⟩ := za.at
  obtain ⟨nm, rn, Nn, Gg, hz, CD⟩ := zb.de
  have hp := gt_lt hr
  refine rt_k (k := 1) (pc' := 1) (L' := [some (.ref 9), some (.int (nI p)), none, none, none]) (st' := [.ref 9]) (h' := h) (fun _ => rfl) ?_
  refine rt_gf rfl c9 rfl rfl ?_
  refine rt_k (k := 1) (pc' := 5) (L' := [some (.ref 9), some (.int (nI p)), none, none, none]) (st' := [.int (nI p), .ref 4]) (h' := h) (fun _ => rfl) ?_
  refine rt_cvE (v := some (.ref a)) (h' := h) rfl (by decide) d4 rfl rfl rfl rfl ?_ ?_
  · refine rt_k (k := 1) (pc' := 1) (L' := [some (.ref 4), some (.int (nI p))]) (st' := [.ref 4]) (h' := h) (fun _ => rfl) ?_
    refine rt_gf rfl d4 rfl rfl ?_
    refine rt_k (k := 1) (pc' := 5) (L' := [some (.ref 4), some (.int (nI p))]) (st' := [.int (nI p), .ref 5]) (h' := h) (fun _ => rfl) ?_
    refine rt_aalN rfl d5 rfl (by omega) (by decide) fa ?_
    exact rt_r (v := some (.ref a)) rfl rfl ⟨rfl, rfl⟩
  refine rt_gf rfl ca rfl rfl ?_
  refine rt_k (k := 3) (pc' := 14) (L' := [some (.ref 9), some (.int (nI p)), some (.ref nd), some (.int (nI 0)), none]) (st' := []) (h' := h) (fun _ => rfl) ?_
  refine so_ne1 hp op riv ned 0 h riv ned op CI CD hz C (Nat.zero_le _) (fun a ha q hq => ⟨Or.inl, fun w => w.elim id (fun w => ?_)⟩) (fun q hq => ⟨fun w => ⟨w, fun w2 => ?_⟩, fun w => w.1⟩) (fun a ha g hg => ⟨Or.inl, fun w => w.elim id (fun w => ?_)⟩) (fun h1 riv1 ned1 op1 x y f1 C1 hr1 ho1 hd1 => ?_) _
  · rcases w with ⟨-, e, h1, -⟩ | ⟨⟨e, h1, -⟩, -⟩ <;> cases h1
  · obtain ⟨-, e, h1, -⟩ := w2; cases h1
  · obtain ⟨-, e, h1, -⟩ := w; cases h1
  have CI1 := CI.fm f1 (by decide) (by decide) sB_zz
  have za1 := za.ex (fr_ex f1 sB_zz)
  obtain ⟨F', g4, g5, -, -, HI'⟩ := id CI1
  obtain ⟨a', fa', za'⟩ := HI' p r hr
  obtain ⟨v', nd', bk', ps', ca', -⟩ := za'.at
  obtain ⟨M', N', Rv', E', nx'', k9, k10, k11, k12, k13, k4, -, -, HM', HR'⟩ := id C1
  refine rt_k (k := 2) (pc' := 102) (L' := [some (.ref 9), some (.int (nI p)), some (.ref nd), x, y]) (st' := [.ref 9, .ref 9]) (h' := h1) (fun _ => rfl) ?_
  refine rt_gf rfl k9 rfl rfl ?_
  refine rt_k (k := 1) (pc' := 106) (L' := [some (.ref 9), some (.int (nI p)), some (.ref nd), x, y]) (st' := [.int (nI p), .ref 4, .ref 9]) (h' := h1) (fun _ => rfl) ?_
  refine rt_cvE (v := some (.ref a')) (h' := h1) rfl (by decide) g4 rfl rfl rfl rfl ?_ ?_
  · refine rt_k (k := 1) (pc' := 1) (L' := [some (.ref 4), some (.int (nI p))]) (st' := [.ref 4]) (h' := h1) (fun _ => rfl) ?_
    refine rt_gf rfl g4 rfl rfl ?_
    refine rt_k (k := 1) (pc' := 5) (L' := [some (.ref 4), some (.int (nI p))]) (st' := [.int (nI p), .ref 5]) (h' := h1) (fun _ => rfl) ?_
    refine rt_aalN rfl g5 rfl (by omega) (by decide) fa' ?_
    exact rt_r (v := some (.ref a')) rfl rfl ⟨rfl, rfl⟩
  refine rt_gf rfl ca' rfl rfl ?_
  refine rt_cvH rfl (by decide) k9 rfl rfl rfl rfl (so_groupOf C1 (nmI (lNm r))) ?_
  rintro _ (⟨g, hg, rfl⟩ | ⟨hno, rfl⟩)
  ·
    have hg1 := hg.1
    refine rt_k (k := 1) (pc' := 116) (L' := [some (.ref 9), some (.int (nI p)), some (.ref nd), some (.int (nI g)), y]) (st' := []) (h' := h1) (fun _ => by cases y <;> rfl) ?_
    refine rt_k (k := 1) (pc' := 117) (L' := [some (.ref 9), some (.int (nI p)), some (.ref nd), some (.int (nI g)), y]) (st' := [.int (nI g)]) (h' := h1) (fun _ => rfl) ?_
    refine rt_zlt rfl (by omega) ?_
    refine rt_k (k := 3) (pc' := 123) (L' := [some (.ref 9), some (.int (nI p)), some (.ref nd), some (.int (nI g)), y]) (st' := [.ref 9, .int (nI p), .ref 9]) (h' := h1) (fun _ => rfl) ?_
    refine rt_gf rfl k9 rfl rfl ?_
    refine rt_k (k := 1) (pc' := 127) (L' := [some (.ref 9), some (.int (nI p)), some (.ref nd), some (.int (nI g)), y]) (st' := [.int (nI g), .ref 10, .int (nI p), .ref 9]) (h' := h1) (fun _ => rfl) ?_
    refine rt_ialN rfl k10 rfl (by omega) (by decide) ((HM' g hg1).1) ?_
    refine rt_k (k := 2) (pc' := 130) (L' := [some (.ref 9), some (.int (nI p)), some (.ref nd), some (.int (nI g)), y]) (st' := [.int (nI p), .int (nI 1), .int (msk (mem g)), .int (nI p), .ref 9]) (h' := h1) (fun _ => rfl) ?_
    refine rt_mbit rfl (by omega) ?_
    refine rt_k (k := 1) (pc' := 132) (L' := [some (.ref 9), some (.int (nI p)), some (.ref nd), some (.int (nI g)), y]) (st' := [.int (-1), .int (msk (fun ι => ι = p)), .int (msk (mem g)), .int (nI p), .ref 9]) (h' := h1) (fun _ => rfl) ?_
    refine rt_mnot rfl ?_
    refine rt_mand rfl ?_
    refine rt_cv rfl (by decide) k9 rfl rfl rfl rfl (so_addRivals C1 p hp _) ?_
    rintro _ h2 ⟨rfl, f2, riv2, C2, hr2⟩
    refine rt_r (v := none) rfl rfl ⟨rfl, fr_tr f1 (fr_mo f2 (fun k q => by unfold sB; omega)), riv2, ned1, op1, C2, fun a ha q hq => ?_, ho1, hd1⟩
    rw [hr2 a ha q hq, hr1 a ha q hq, or_assoc, ← syR_or]
    refine or_congr Iff.rfl (syR_cg (fun z => or_congr Iff.rfl ⟨fun w => ⟨g, hg, w⟩, fun ⟨g', h1, h2⟩ => by rw [FG_un hg h1] at h2; exact h2⟩))
  refine rt_k (k := 3) (pc' := 137) (L' := [some (.ref 9), some (.int (nI p)), some (.ref nd), some (.int (-1)), y]) (st' := []) (h' := h1) (fun _ => by cases y <;> rfl) ?_
  refine rt_r (v := none) rfl rfl ⟨rfl, f1, riv1, ned1, op1, C1, fun a ha q hq => ?_, ho1, hd1⟩
  rw [hr1 a ha q hq]
  refine or_congr Iff.rfl (syR_cg (fun z => ⟨Or.inl, fun w => w.elim id (fun ⟨g', h1, _⟩ => absurd h1.2.1 (hno g' h1.1))⟩))
/-- what the roots leave -/
def opR (I : List kL) (G : Nat) (mem : Nat → Nat → Prop) (gn : Nat → Int64) (T : kD) (q : Nat) : Prop := ∀ e ∈ T, ∀ g, FG G gn (nmI e.1) g → (¬ mem g q ∨ irS I mem g e.2 q)
theorem so_ro1 {I : List kL} {nx : Nat} {D : kD} (op0 : Nat → Prop) (i : Nat) (h : List va_E) (rg op : Nat → Prop) (li : Prop) (CI : cI h I nx) (CR : cR h D) (C : sR h I.length G mem gn riv ned rg op li le so fo) (hi : i ≤ D.length) (hg : ∀ g, g < 32 → (rg g ↔ neG G gn (D.take i) g)) (hl : li ↔ ¬ noG G gn (D.take i)) (ho : ∀ q, q < 32 → (op q ↔ op0 q ∧ opR I G mem gn (D.take i) q)) (k : ∀ (h' : List va_E) (rg' op' : Nat → Prop) (li' : Prop) x y, fr_ sB h h' → sR h' I.length G mem gn riv ned rg' op' li' le so fo → (∀ g, g < 32 → (rg' g ↔ neG G gn D g)) → (li' ↔ ¬ noG G gn D) → (∀ q, q < 32 → (op' q ↔ op0 q ∧ opR I G mem gn D q)) → rt_ X (d + 4) 85 97 [some (.ref 9), x, y] [] h' Q) (w : Option Value) : rt_ X (d + 4) 85 12 [some (.ref 9), some (.int (nI i)), w] [] h Q := by
  obtain ⟨M, N, R, E, nx', c9, c10, c11, c12, c13, c4, hG, hn, HM, HR⟩ := id C
  obtain ⟨Nn, Gg, e1, e2, e3, e4, e5, e6⟩ := id CR
  refine rt_k (k := 2) (pc' := 14) (L' := [some (.ref 9), some (.int (nI i)), w]) (st' := [.ref 9, .int (nI i)]) (h' := h) (fun _ => rfl) ?_
  refine rt_gf rfl c9 rfl rfl ?_
  refine rt_cvE (v := some (.int (nI D.length))) (h' := h) rfl (by decide) e1 rfl rfl rfl rfl ?_ ?_
  · refine rt_k (k := 1) (pc' := 1) (L' := [some (.ref 6)]) (st' := [.ref 6]) (h' := h) (fun _ => rfl) ?_
    refine rt_gf rfl e1 rfl rfl ?_
    exact rt_r (v := some (.int (nI D.length))) rfl rfl ⟨rfl, rfl⟩
  refine rt_ige rfl (by omega) (by omega) (fun z => ?_) (fun z => ?_)
  ·
    rw [List.take_of_length_le z] at hg hl ho
    exact k h rg op li _ _ fr_rf C hg hl ho
  obtain ⟨e, he⟩ := gt_ex z
  obtain ⟨u1, ra, u2, u3⟩ := e6 i e he
  refine rt_k (k := 2) (pc' := 25) (L' := [some (.ref 9), some (.int (nI i)), w]) (st' := [.ref 9, .ref 9]) (h' := h) (fun _ => rfl) ?_
  refine rt_gf rfl c9 rfl rfl ?_
  refine rt_k (k := 1) (pc' := 29) (L' := [some (.ref 9), some (.int (nI i)), w]) (st' := [.int (nI i), .ref 6, .ref 9]) (h' := h) (fun _ => rfl) ?_
  refine rt_cvE (v := some (.long (nmI e.1))) (h' := h) rfl (by decide) e1 rfl rfl rfl rfl ?_ ?_
  · refine rt_k (k := 1) (pc' := 1) (L' := [some (.ref 6), some (.int (nI i))]) (st' := [.ref 6]) (h' := h) (fun _ => rfl) ?_
    refine rt_gf rfl e1 rfl rfl ?_
    refine rt_k (k := 1) (pc' := 5) (L' := [some (.ref 6), some (.int (nI i))]) (st' := [.int (nI i), .ref 7]) (h' := h) (fun _ => rfl) ?_
    refine rt_lalN rfl e2 rfl (by omega) (by decide) u1 ?_
    exact rt_r (v := some (.long (nmI e.1))) rfl rfl ⟨rfl, rfl⟩
  refine rt_cvH rfl (by decide) c9 rfl rfl rfl rfl (so_groupOf C (nmI e.1)) ?_
  rintro _ (⟨g, hg', rfl⟩ | ⟨hno, rfl⟩)
  ·
    have hg1 := hg'.1
    refine rt_k (k := 2) (pc' := 37) (L' := [some (.ref 9), some (.int (nI i)), some (.int (nI g))]) (st' := [.int (nI g)]) (h' := h) (fun _ => rfl) ?_
    refine rt_zge rfl (by omega) ?_
    refine rt_k (k := 2) (pc' := 50) (L' := [some (.ref 9), some (.int (nI i)), some (.int (nI g))]) (st' := [.ref 9, .ref 9]) (h' := h) (fun _ => rfl) ?_
    refine rt_gf rfl c9 rfl rfl ?_
    refine rt_k (k := 2) (pc' := 55) (L' := [some (.ref 9), some (.int (nI i)), some (.int (nI g))]) (st' := [.int (nI g), .int (nI 1), .int (msk rg), .ref 9]) (h' := h) (fun _ => rfl) ?_
    refine rt_mbit rfl (by omega) ?_
    refine rt_mor rfl ?_
    refine rt_pf rfl c9 ⟨rfl, (show 7 < 13 by decide), rfl⟩ ?_
    have f_1 : fr_ (sB) h (h.set 9 (.inr (5, [.ref 4, .ref 6, .ref 10, .ref 11, .int (nI G), .ref 12, .ref 13, .int (msk (fun ι => rg ι ∨ (ι = g))), .int (msk op), .int (tB li), .int (tB le), .int (tB so), .int (msk fo)]))) := fr_set (e' := .inr (5, [.ref 4, .ref 6, .ref 10, .ref 11, .int (nI G), .ref 12, .ref 13, .int (msk (fun ι => rg ι ∨ (ι = g))), .int (msk op), .int (tB li), .int (tB le), .int (tB so), .int (msk fo)])) c9 (by rfl) (by first | decide | simp)
    have x_2 : ex_ h (h.set 9 (.inr (5, [.ref 4, .ref 6, .ref 10, .ref 11, .int (nI G), .ref 12, .ref 13, .int (msk (fun ι => rg ι ∨ (ι = g))), .int (msk op), .int (tB li), .int (tB le), .int (tB so), .int (msk fo)]))) := ex_set (e := .inr (5, [.ref 4, .ref 6, .ref 10, .ref 11, .int (nI G), .ref 12, .ref 13, .int (msk (fun ι => rg ι ∨ (ι = g))), .int (msk op), .int (tB li), .int (tB le), .int (tB so), .int (msk fo)])) (by unfold zz; omega)
    have c_3 := hs_ne (a := 9) (e' := .inr (5, [.ref 4, .ref 6, .ref 10, .ref 11, .int (nI G), .ref 12, .ref 13, .int (msk (fun ι => rg ι ∨ (ι = g))), .int (msk op), .int (tB li), .int (tB le), .int (tB so), .int (msk fo)])) e1 (by decide)
    have c_4 := hs_ne (a := 9) (e' := .inr (5, [.ref 4, .ref 6, .ref 10, .ref 11, .int (nI G), .ref 12, .ref 13, .int (msk (fun ι => rg ι ∨ (ι = g))), .int (msk op), .int (tB li), .int (tB le), .int (tB so), .int (msk fo)])) e2 (by decide)
    have c_5 := hs_ne (a := 9) (e' := .inr (5, [.ref 4, .ref 6, .ref 10, .ref 11, .int (nI G), .ref 12, .ref 13, .int (msk (fun ι => rg ι ∨ (ι = g))), .int (msk op), .int (tB li), .int (tB le), .int (tB so), .int (msk fo)])) e3 (by decide)
    have c_6 := hs_ne (a := 9) (e' := .inr (5, [.ref 4, .ref 6, .ref 10, .ref 11, .int (nI G), .ref 12, .ref 13, .int (msk (fun ι => rg ι ∨ (ι = g))), .int (msk op), .int (tB li), .int (tB le), .int (tB so), .int (msk fo)])) c10 (by decide)
    have c_7 := hs_self (e' := .inr (5, [.ref 4, .ref 6, .ref 10, .ref 11, .int (nI G), .ref 12, .ref 13, .int (msk (fun ι => rg ι ∨ (ι = g))), .int (msk op), .int (tB li), .int (tB le), .int (tB so), .int (msk fo)])) c9
    have C1 : sR (h.set 9 (.inr (5, [.ref 4, .ref 6, .ref 10, .ref 11, .int (nI G), .ref 12, .ref 13, .int (msk (fun ι => rg ι ∨ (ι = g))), .int (msk op), .int (tB li), .int (tB le), .int (tB so), .int (msk fo)]))) I.length G mem gn riv ned (fun x => rg x ∨ x = g) op li le so fo := C.s9 _ op li le so fo rfl rfl rfl rfl rfl rfl
    have CI1 := CI.fm f_1 (by decide) (by decide) sB_zz
    have u3' := u3.ex x_2
    refine rt_k (k := 2) (pc' := 62) (L' := [some (.ref 9), some (.int (nI i)), some (.int (nI g))]) (st' := [.ref 9, .ref 9]) (h' := (h.set 9 (.inr (5, [.ref 4, .ref 6, .ref 10, .ref 11, .int (nI G), .ref 12, .ref 13, .int (msk (fun ι => rg ι ∨ (ι = g))), .int (msk op), .int (tB li), .int (tB le), .int (tB so), .int (msk fo)])))) (fun _ => rfl) ?_
    refine rt_gf rfl c_7 rfl rfl ?_
    refine rt_k (k := 1) (pc' := 66) (L' := [some (.ref 9), some (.int (nI i)), some (.int (nI g))]) (st' := [.ref 9, .int (msk op), .ref 9]) (h' := (h.set 9 (.inr (5, [.ref 4, .ref 6, .ref 10, .ref 11, .int (nI G), .ref 12, .ref 13, .int (msk (fun ι => rg ι ∨ (ι = g))), .int (msk op), .int (tB li), .int (tB le), .int (tB so), .int (msk fo)])))) (fun _ => rfl) ?_
    refine rt_gf rfl c_7 rfl rfl ?_
    refine rt_k (k := 1) (pc' := 70) (L' := [some (.ref 9), some (.int (nI i)), some (.int (nI g))]) (st' := [.int (nI g), .ref 10, .int (msk op), .ref 9]) (h' := (h.set 9 (.inr (5, [.ref 4, .ref 6, .ref 10, .ref 11, .int (nI G), .ref 12, .ref 13, .int (msk (fun ι => rg ι ∨ (ι = g))), .int (msk op), .int (tB li), .int (tB le), .int (tB so), .int (msk fo)])))) (fun _ => rfl) ?_
    refine rt_ialN rfl c_6 rfl (by omega) (by decide) ((HM g hg1).1) ?_
    refine rt_k (k := 1) (pc' := 72) (L' := [some (.ref 9), some (.int (nI i)), some (.int (nI g))]) (st' := [.int (-1), .int (msk (mem g)), .int (msk op), .ref 9]) (h' := (h.set 9 (.inr (5, [.ref 4, .ref 6, .ref 10, .ref 11, .int (nI G), .ref 12, .ref 13, .int (msk (fun ι => rg ι ∨ (ι = g))), .int (msk op), .int (tB li), .int (tB le), .int (tB so), .int (msk fo)])))) (fun _ => rfl) ?_
    refine rt_mnot rfl ?_
    refine rt_k (k := 3) (pc' := 76) (L' := [some (.ref 9), some (.int (nI i)), some (.int (nI g))]) (st' := [.ref 9, .int (nI g), .ref 9, .int (msk (fun ι => ¬ (mem g) ι)), .int (msk op), .ref 9]) (h' := (h.set 9 (.inr (5, [.ref 4, .ref 6, .ref 10, .ref 11, .int (nI G), .ref 12, .ref 13, .int (msk (fun ι => rg ι ∨ (ι = g))), .int (msk op), .int (tB li), .int (tB le), .int (tB so), .int (msk fo)])))) (fun _ => rfl) ?_
    refine rt_gf rfl c_7 rfl rfl ?_
    refine rt_k (k := 1) (pc' := 80) (L' := [some (.ref 9), some (.int (nI i)), some (.int (nI g))]) (st' := [.int (nI i), .ref 6, .int (nI g), .ref 9, .int (msk (fun ι => ¬ (mem g) ι)), .int (msk op), .ref 9]) (h' := (h.set 9 (.inr (5, [.ref 4, .ref 6, .ref 10, .ref 11, .int (nI G), .ref 12, .ref 13, .int (msk (fun ι => rg ι ∨ (ι = g))), .int (msk op), .int (tB li), .int (tB le), .int (tB so), .int (msk fo)])))) (fun _ => rfl) ?_
    refine rt_cvE (v := some (.ref ra)) (h' := (h.set 9 (.inr (5, [.ref 4, .ref 6, .ref 10, .ref 11, .int (nI G), .ref 12, .ref 13, .int (msk (fun ι => rg ι ∨ (ι = g))), .int (msk op), .int (tB li), .int (tB le), .int (tB so), .int (msk fo)])))) rfl (by decide) c_3 rfl rfl rfl rfl ?_ ?_
    · refine rt_k (k := 1) (pc' := 1) (L' := [some (.ref 6), some (.int (nI i))]) (st' := [.ref 6]) (h' := (h.set 9 (.inr (5, [.ref 4, .ref 6, .ref 10, .ref 11, .int (nI G), .ref 12, .ref 13, .int (msk (fun ι => rg ι ∨ (ι = g))), .int (msk op), .int (tB li), .int (tB le), .int (tB so), .int (msk fo)])))) (fun _ => rfl) ?_
      refine rt_gf rfl c_3 rfl rfl ?_
      refine rt_k (k := 1) (pc' := 5) (L' := [some (.ref 6), some (.int (nI i))]) (st' := [.int (nI i), .ref 8]) (h' := (h.set 9 (.inr (5, [.ref 4, .ref 6, .ref 10, .ref 11, .int (nI G), .ref 12, .ref 13, .int (msk (fun ι => rg ι ∨ (ι = g))), .int (msk op), .int (tB li), .int (tB le), .int (tB so), .int (msk fo)])))) (fun _ => rfl) ?_
      refine rt_aalN rfl c_5 rfl (by omega) (by decide) u2 ?_
      exact rt_r (v := some (.ref ra)) rfl rfl ⟨rfl, rfl⟩
    refine rt_cvE rfl (by decide) c_7 rfl rfl rfl rfl (so_inRange CI1 C1 u3' hg1) ?_
    refine rt_mor rfl ?_
    refine rt_mand rfl ?_
    refine rt_pf rfl c_7 ⟨rfl, (show 8 < 13 by decide), rfl⟩ ?_
    have f_8 : fr_ (sB) h ((h.set 9 (.inr (5, [.ref 4, .ref 6, .ref 10, .ref 11, .int (nI G), .ref 12, .ref 13, .int (msk (fun ι => rg ι ∨ (ι = g))), .int (msk op), .int (tB li), .int (tB le), .int (tB so), .int (msk fo)]))).set 9 (.inr (5, [.ref 4, .ref 6, .ref 10, .ref 11, .int (nI G), .ref 12, .ref 13, .int (msk (fun ι => rg ι ∨ (ι = g))), .int (msk (fun ι => op ι ∧ ((¬ (mem g) ι) ∨ (irS I mem g e.2) ι))), .int (tB li), .int (tB le), .int (tB so), .int (msk fo)]))) := fr_tr f_1 (fr_set (e' := .inr (5, [.ref 4, .ref 6, .ref 10, .ref 11, .int (nI G), .ref 12, .ref 13, .int (msk (fun ι => rg ι ∨ (ι = g))), .int (msk (fun ι => op ι ∧ ((¬ (mem g) ι) ∨ (irS I mem g e.2) ι))), .int (tB li), .int (tB le), .int (tB so), .int (msk fo)])) c_7 (by rfl) (by first | decide | simp))
    have x_9 : ex_ h ((h.set 9 (.inr (5, [.ref 4, .ref 6, .ref 10, .ref 11, .int (nI G), .ref 12, .ref 13, .int (msk (fun ι => rg ι ∨ (ι = g))), .int (msk op), .int (tB li), .int (tB le), .int (tB so), .int (msk fo)]))).set 9 (.inr (5, [.ref 4, .ref 6, .ref 10, .ref 11, .int (nI G), .ref 12, .ref 13, .int (msk (fun ι => rg ι ∨ (ι = g))), .int (msk (fun ι => op ι ∧ ((¬ (mem g) ι) ∨ (irS I mem g e.2) ι))), .int (tB li), .int (tB le), .int (tB so), .int (msk fo)]))) := ex_tr x_2 (ex_set (e := .inr (5, [.ref 4, .ref 6, .ref 10, .ref 11, .int (nI G), .ref 12, .ref 13, .int (msk (fun ι => rg ι ∨ (ι = g))), .int (msk (fun ι => op ι ∧ ((¬ (mem g) ι) ∨ (irS I mem g e.2) ι))), .int (tB li), .int (tB le), .int (tB so), .int (msk fo)])) (by unfold zz; omega))
    have c_10 := hs_ne (a := 9) (e' := .inr (5, [.ref 4, .ref 6, .ref 10, .ref 11, .int (nI G), .ref 12, .ref 13, .int (msk (fun ι => rg ι ∨ (ι = g))), .int (msk (fun ι => op ι ∧ ((¬ (mem g) ι) ∨ (irS I mem g e.2) ι))), .int (tB li), .int (tB le), .int (tB so), .int (msk fo)])) c_3 (by decide)
    have c_11 := hs_ne (a := 9) (e' := .inr (5, [.ref 4, .ref 6, .ref 10, .ref 11, .int (nI G), .ref 12, .ref 13, .int (msk (fun ι => rg ι ∨ (ι = g))), .int (msk (fun ι => op ι ∧ ((¬ (mem g) ι) ∨ (irS I mem g e.2) ι))), .int (tB li), .int (tB le), .int (tB so), .int (msk fo)])) c_4 (by decide)
    have c_12 := hs_ne (a := 9) (e' := .inr (5, [.ref 4, .ref 6, .ref 10, .ref 11, .int (nI G), .ref 12, .ref 13, .int (msk (fun ι => rg ι ∨ (ι = g))), .int (msk (fun ι => op ι ∧ ((¬ (mem g) ι) ∨ (irS I mem g e.2) ι))), .int (tB li), .int (tB le), .int (tB so), .int (msk fo)])) c_5 (by decide)
    have c_13 := hs_ne (a := 9) (e' := .inr (5, [.ref 4, .ref 6, .ref 10, .ref 11, .int (nI G), .ref 12, .ref 13, .int (msk (fun ι => rg ι ∨ (ι = g))), .int (msk (fun ι => op ι ∧ ((¬ (mem g) ι) ∨ (irS I mem g e.2) ι))), .int (tB li), .int (tB le), .int (tB so), .int (msk fo)])) c_6 (by decide)
    have c_14 := hs_self (e' := .inr (5, [.ref 4, .ref 6, .ref 10, .ref 11, .int (nI G), .ref 12, .ref 13, .int (msk (fun ι => rg ι ∨ (ι = g))), .int (msk (fun ι => op ι ∧ ((¬ (mem g) ι) ∨ (irS I mem g e.2) ι))), .int (tB li), .int (tB le), .int (tB so), .int (msk fo)])) c_7
    have C2 : sR ((h.set 9 (.inr (5, [.ref 4, .ref 6, .ref 10, .ref 11, .int (nI G), .ref 12, .ref 13, .int (msk (fun ι => rg ι ∨ (ι = g))), .int (msk op), .int (tB li), .int (tB le), .int (tB so), .int (msk fo)]))).set 9 (.inr (5, [.ref 4, .ref 6, .ref 10, .ref 11, .int (nI G), .ref 12, .ref 13, .int (msk (fun ι => rg ι ∨ (ι = g))), .int (msk (fun ι => op ι ∧ ((¬ (mem g) ι) ∨ (irS I mem g e.2) ι))), .int (tB li), .int (tB le), .int (tB so), .int (msk fo)]))) I.length G mem gn riv ned (fun x => rg x ∨ x = g) (fun q => op q ∧ (¬ mem g q ∨ irS I mem g e.2 q)) li le so fo := C1.s9 _ _ li le so fo rfl rfl rfl rfl rfl rfl
    refine rt_inc (c := 1) rfl rfl ?_
    refine rt_k (k := 1) (pc' := 12) (L' := [some (.ref 9), some (.int (nI (i + 1))), some (.int (nI g))]) (st' := []) (h' := ((h.set 9 (.inr (5, [.ref 4, .ref 6, .ref 10, .ref 11, .int (nI G), .ref 12, .ref 13, .int (msk (fun ι => rg ι ∨ (ι = g))), .int (msk op), .int (tB li), .int (tB le), .int (tB so), .int (msk fo)]))).set 9 (.inr (5, [.ref 4, .ref 6, .ref 10, .ref 11, .int (nI G), .ref 12, .ref 13, .int (msk (fun ι => rg ι ∨ (ι = g))), .int (msk (fun ι => op ι ∧ ((¬ (mem g) ι) ∨ (irS I mem g e.2) ι))), .int (tB li), .int (tB le), .int (tB so), .int (msk fo)])))) (fun _ => rfl) ?_
    refine so_ro1 op0 (i + 1) _ _ _ li (CI.fm f_8 (by decide) (by decide) sB_zz) (CR.fm f_8 (by decide) (by decide) (by decide) sB_zz) C2 z (fun x hx => ?_) ?_ (fun q hq => ?_) (fun h' rg' op' li' x y f2 => k h' rg' op' li' x y (fr_tr f_8 f2)) _
    · show rg x ∨ x = g ↔ _
      rw [hg x hx]
      constructor
      · rintro (⟨e', h1, h2⟩ | h1)
        · exact ⟨e', (mem_ts he).mpr (Or.inl h1), h2⟩
        · subst h1; exact ⟨e, (mem_ts he).mpr (Or.inr rfl), hg'⟩
      · rintro ⟨e', h1, h2⟩
        rcases (mem_ts he).mp h1 with h1 | h1
        · exact Or.inl ⟨e', h1, h2⟩
        · subst h1; exact Or.inr (FG_un hg' h2)
    · rw [hl]
      refine not_congr ⟨fun ⟨e', h1, h2⟩ => ⟨e', (mem_ts he).mpr (Or.inl h1), h2⟩, fun ⟨e', h1, h2⟩ => ?_⟩
      rcases (mem_ts he).mp h1 with h1 | h1
      · exact ⟨e', h1, h2⟩
      · subst h1; exact absurd hg'.2.1 (h2 g hg1)
    · show op q ∧ (¬ mem g q ∨ irS I mem g e.2 q) ↔ _
      rw [ho q hq, and_assoc]
      refine and_congr Iff.rfl ⟨fun w e' h1 g' h2 => ?_, fun w => ⟨fun e' h1 => w e' ((mem_ts he).mpr (Or.inl h1)), w e ((mem_ts he).mpr (Or.inr rfl)) g hg'⟩⟩
      rcases (mem_ts he).mp h1 with h1 | h1
      · exact w.1 e' h1 g' h2
      · subst h1; rw [FG_un hg' h2]; exact w.2
  refine rt_k (k := 5) (pc' := 42) (L' := [some (.ref 9), some (.int (nI i)), some (.int (-1))]) (st' := [.int (nI 0), .ref 9]) (h' := h) (fun _ => rfl) ?_
  refine rt_pf rfl c9 ⟨rfl, (show 9 < 13 by decide), rfl⟩ ?_
  have f_15 : fr_ (sB) h (h.set 9 (.inr (5, [.ref 4, .ref 6, .ref 10, .ref 11, .int (nI G), .ref 12, .ref 13, .int (msk rg), .int (msk op), .int (nI 0), .int (tB le), .int (tB so), .int (msk fo)]))) := fr_set (e' := .inr (5, [.ref 4, .ref 6, .ref 10, .ref 11, .int (nI G), .ref 12, .ref 13, .int (msk rg), .int (msk op), .int (nI 0), .int (tB le), .int (tB so), .int (msk fo)])) c9 (by rfl) (by first | decide | simp)
  have c_16 := hs_ne (a := 9) (e' := .inr (5, [.ref 4, .ref 6, .ref 10, .ref 11, .int (nI G), .ref 12, .ref 13, .int (msk rg), .int (msk op), .int (nI 0), .int (tB le), .int (tB so), .int (msk fo)])) e1 (by decide)
  have c_17 := hs_ne (a := 9) (e' := .inr (5, [.ref 4, .ref 6, .ref 10, .ref 11, .int (nI G), .ref 12, .ref 13, .int (msk rg), .int (msk op), .int (nI 0), .int (tB le), .int (tB so), .int (msk fo)])) e2 (by decide)
  have c_18 := hs_ne (a := 9) (e' := .inr (5, [.ref 4, .ref 6, .ref 10, .ref 11, .int (nI G), .ref 12, .ref 13, .int (msk rg), .int (msk op), .int (nI 0), .int (tB le), .int (tB so), .int (msk fo)])) e3 (by decide)
  have c_19 := hs_ne (a := 9) (e' := .inr (5, [.ref 4, .ref 6, .ref 10, .ref 11, .int (nI G), .ref 12, .ref 13, .int (msk rg), .int (msk op), .int (nI 0), .int (tB le), .int (tB so), .int (msk fo)])) c10 (by decide)
  have c_20 := hs_self (e' := .inr (5, [.ref 4, .ref 6, .ref 10, .ref 11, .int (nI G), .ref 12, .ref 13, .int (msk rg), .int (msk op), .int (nI 0), .int (tB le), .int (tB so), .int (msk fo)])) c9
  refine rt_k (k := 1) (pc' := 91) (L' := [some (.ref 9), some (.int (nI i)), some (.int (-1))]) (st' := []) (h' := (h.set 9 (.inr (5, [.ref 4, .ref 6, .ref 10, .ref 11, .int (nI G), .ref 12, .ref 13, .int (msk rg), .int (msk op), .int (nI 0), .int (tB le), .int (tB so), .int (msk fo)])))) (fun _ => rfl) ?_
  refine rt_inc (c := 1) rfl rfl ?_
  refine rt_k (k := 1) (pc' := 12) (L' := [some (.ref 9), some (.int (nI (i + 1))), some (.int (-1))]) (st' := []) (h' := (h.set 9 (.inr (5, [.ref 4, .ref 6, .ref 10, .ref 11, .int (nI G), .ref 12, .ref 13, .int (msk rg), .int (msk op), .int (nI 0), .int (tB le), .int (tB so), .int (msk fo)])))) (fun _ => rfl) ?_
  have C1 : sR (h.set 9 (.inr (5, [.ref 4, .ref 6, .ref 10, .ref 11, .int (nI G), .ref 12, .ref 13, .int (msk rg), .int (msk op), .int (nI 0), .int (tB le), .int (tB so), .int (msk fo)]))) I.length G mem gn riv ned rg op False le so fo := C.s9 rg op False le so fo (by rw [tB_f id]; rfl) rfl rfl rfl rfl rfl
  refine so_ro1 op0 (i + 1) _ rg op False (CI.fm f_15 (by decide) (by decide) sB_zz) (CR.fm f_15 (by decide) (by decide) (by decide) sB_zz) C1 z (fun x hx => ?_) ?_ (fun q hq => ?_) (fun h' rg' op' li' x y f2 => k h' rg' op' li' x y (fr_tr f_15 f2)) _
  · rw [hg x hx]
    refine ⟨fun ⟨e', h1, h2⟩ => ⟨e', (mem_ts he).mpr (Or.inl h1), h2⟩, fun ⟨e', h1, h2⟩ => ?_⟩
    rcases (mem_ts he).mp h1 with h1 | h1
    · exact ⟨e', h1, h2⟩
    · subst h1; exact absurd h2.2.1 (hno x h2.1)
  · exact ⟨fun w => absurd w id, fun w => w ⟨e, (mem_ts he).mpr (Or.inr rfl), hno⟩⟩
  · rw [ho q hq]
    refine and_congr Iff.rfl ⟨fun w e' h1 g' h2 => ?_, fun w => fun e' h1 => w e' ((mem_ts he).mpr (Or.inl h1))⟩
    rcases (mem_ts he).mp h1 with h1 | h1
    · exact w e' h1 g' h2
    · subst h1; exact absurd h2.2.1 (hno g' h2.1)
termination_by D.length - i
theorem so_roots {I : List kL} {nx : Nat} {D : kD} (CI : cI h I nx) (CR : cR h D) (C : sR h I.length G mem gn riv ned rg op li le so fo) : rt_ X (d + 4) 85 0 [some (.ref 9), none, none] [] h (fun v h' => v = none ∧ fr_ sB h h' ∧ ∃ rg' op' li', sR h' I.length G mem gn riv ned rg' op' li' le so fo ∧ (∀ g, g < 32 → (rg' g ↔ neG G gn D g)) ∧ (li' ↔ ¬ noG G gn D) ∧ ∀ q, q < 32 → (op' q ↔ op q ∧ opR I G mem gn D q)) := by
  obtain ⟨M, N, R, E, nx', c9, c10, c11, c12, c13, c4, hG, hn, HM, HR⟩ := id C
  refine rt_k (k := 2) (pc' := 2) (L' := [some (.ref 9), none, none]) (st' := [.int (nI 0), .ref 9]) (h' := h) (fun _ => rfl) ?_
  refine rt_pf rfl c9 ⟨rfl, (show 7 < 13 by decide), rfl⟩ ?_
  have f_21 : fr_ (sB) h (h.set 9 (.inr (5, [.ref 4, .ref 6, .ref 10, .ref 11, .int (nI G), .ref 12, .ref 13, .int (nI 0), .int (msk op), .int (tB li), .int (tB le), .int (tB so), .int (msk fo)]))) := fr_set (e' := .inr (5, [.ref 4, .ref 6, .ref 10, .ref 11, .int (nI G), .ref 12, .ref 13, .int (nI 0), .int (msk op), .int (tB li), .int (tB le), .int (tB so), .int (msk fo)])) c9 (by rfl) (by first | decide | simp)
  have c_22 := hs_self (e' := .inr (5, [.ref 4, .ref 6, .ref 10, .ref 11, .int (nI G), .ref 12, .ref 13, .int (nI 0), .int (msk op), .int (tB li), .int (tB le), .int (tB so), .int (msk fo)])) c9
  have C1 : sR (h.set 9 (.inr (5, [.ref 4, .ref 6, .ref 10, .ref 11, .int (nI G), .ref 12, .ref 13, .int (nI 0), .int (msk op), .int (tB li), .int (tB le), .int (tB so), .int (msk fo)]))) I.length G mem gn riv ned (fun _ => False) op li le so fo := C.s9 _ op li le so fo rfl rfl rfl (by rw [msk_0]; rfl) rfl rfl
  refine rt_k (k := 2) (pc' := 7) (L' := [some (.ref 9), none, none]) (st' := [.int (nI 1), .ref 9]) (h' := (h.set 9 (.inr (5, [.ref 4, .ref 6, .ref 10, .ref 11, .int (nI G), .ref 12, .ref 13, .int (nI 0), .int (msk op), .int (tB li), .int (tB le), .int (tB so), .int (msk fo)])))) (fun _ => rfl) ?_
  refine rt_pf rfl c_22 ⟨rfl, (show 9 < 13 by decide), rfl⟩ ?_
  have f_23 : fr_ (sB) h ((h.set 9 (.inr (5, [.ref 4, .ref 6, .ref 10, .ref 11, .int (nI G), .ref 12, .ref 13, .int (nI 0), .int (msk op), .int (tB li), .int (tB le), .int (tB so), .int (msk fo)]))).set 9 (.inr (5, [.ref 4, .ref 6, .ref 10, .ref 11, .int (nI G), .ref 12, .ref 13, .int (nI 0), .int (msk op), .int (nI 1), .int (tB le), .int (tB so), .int (msk fo)]))) := fr_tr f_21 (fr_set (e' := .inr (5, [.ref 4, .ref 6, .ref 10, .ref 11, .int (nI G), .ref 12, .ref 13, .int (nI 0), .int (msk op), .int (nI 1), .int (tB le), .int (tB so), .int (msk fo)])) c_22 (by rfl) (by first | decide | simp))
  have c_24 := hs_self (e' := .inr (5, [.ref 4, .ref 6, .ref 10, .ref 11, .int (nI G), .ref 12, .ref 13, .int (nI 0), .int (msk op), .int (nI 1), .int (tB le), .int (tB so), .int (msk fo)])) c_22
  refine rt_k (k := 2) (pc' := 12) (L' := [some (.ref 9), some (.int (nI 0)), none]) (st' := []) (h' := ((h.set 9 (.inr (5, [.ref 4, .ref 6, .ref 10, .ref 11, .int (nI G), .ref 12, .ref 13, .int (nI 0), .int (msk op), .int (tB li), .int (tB le), .int (tB so), .int (msk fo)]))).set 9 (.inr (5, [.ref 4, .ref 6, .ref 10, .ref 11, .int (nI G), .ref 12, .ref 13, .int (nI 0), .int (msk op), .int (nI 1), .int (tB le), .int (tB so), .int (msk fo)])))) (fun _ => rfl) ?_
  have C2 : sR ((h.set 9 (.inr (5, [.ref 4, .ref 6, .ref 10, .ref 11, .int (nI G), .ref 12, .ref 13, .int (nI 0), .int (msk op), .int (tB li), .int (tB le), .int (tB so), .int (msk fo)]))).set 9 (.inr (5, [.ref 4, .ref 6, .ref 10, .ref 11, .int (nI G), .ref 12, .ref 13, .int (nI 0), .int (msk op), .int (nI 1), .int (tB le), .int (tB so), .int (msk fo)]))) I.length G mem gn riv ned (fun _ => False) op True le so fo := C1.s9 _ op True le so fo (by rw [tB_t trivial]; rfl) rfl rfl (by rw [msk_0]; rfl) rfl rfl
  refine so_ro1 op 0 _ _ op True (CI.fm f_23 (by decide) (by decide) sB_zz) (CR.fm f_23 (by decide) (by decide) (by decide) sB_zz) C2 (Nat.zero_le _) (fun x hx => ⟨fun w => absurd w id, fun w => by obtain ⟨e, h1, _⟩ := w; cases h1⟩) ⟨fun _ w => (by obtain ⟨e, h1, _⟩ := w; cases h1), fun _ => trivial⟩ (fun q hq => ⟨fun w => ⟨w, fun e h1 => (by cases h1)⟩, fun w => w.1⟩) (fun h' rg' op' li' x y f2 C3 q1 q2 q3 => ?_) _
  exact rt_r (v := none) rfl rfl ⟨rfl, fr_tr f_23 f2, rg', op', li', C3, q1, q2, q3⟩
end SO6

