/-! HISTORY: at 14, kept at 15, steps at 16 and 17. -/
abbrev kS : Type := List (Nat × Nat)
def sHf (SN SC : Nat → Int32) (st : kS) : Prop := ∀ (i : Nat) e, st[i]? = some e → SN i = nI e.1 ∧ SC i = nI e.2
/-- the history's four cells; what kept holds is told apart -/
def hC (h : List va_E) (n made : Nat) (F : Nat → Option Nat) (st : kS) : Prop := ∃ SN SC : Nat → Int32, h[14]? = some (.inr (6, [.ref 15, .int (nI n), .int (nI made), .ref 16, .ref 17, .int (nI st.length)])) ∧ h[15]? = some (.inl (7, 4, .inr (.inr (.inr (.inr F))))) ∧ h[16]? = some (.inl (2, 16, .inl SN)) ∧ h[17]? = some (.inl (2, 16, .inl SC)) ∧ st.length ≤ 16 ∧ sHf SN SC st
def kHf (h : List va_E) (F : Nat → Option Nat) (K : List kG) : Prop := ∀ (i : Nat) g, K[i]? = some g → ∃ a, F i = some a ∧ zG h a g
def cH (h : List va_E) (K : List kG) (made : Nat) (st : kS) : Prop := ∃ F, hC h K.length made F st ∧ 1 ≤ K.length ∧ K.length ≤ 4 ∧ made ≤ 600 ∧ kHf h F K
theorem kHf.ex {h h' : List va_E} {F : Nat → Option Nat} {K : List kG} (E : ex_ h h') (C : kHf h F K) : kHf h' F K := fun i g hg => by
  obtain ⟨a, f, z⟩ := C i g hg
  exact ⟨a, f, z.ex E⟩
abbrev hS : Nat → Prop := fun z => z = 14 ∨ z = 16 ∨ z = 17
theorem hS_zz : ∀ k, zz k → ¬ hS k := by intro k q; unfold zz at q; unfold hS; omega
section HI
variable {X : Nat × (Nat → Int32)} {d : Nat} {h : List va_E} {Q : Option Value → List va_E → Prop} {n made : Nat} {F : Nat → Option Nat} {st : kS}
theorem his_add (C : hC h n made F st) (hl : st.length < 16) (a b : Nat) : rt_ X d 107 0 [some (.ref 14), some (.int (nI a)), some (.int (nI b))] [] h (fun v h' => v = none ∧ fr_ hS h h' ∧ hC h' n made F (st ++ [(a, b)])) := by
  obtain ⟨SN, SC, c1, c2, c3, c4, -, c6⟩ := C
  refine rt_k (k := 1) (pc' := 1) (L' := [some (.ref 14), some (.int (nI a)), some (.int (nI b))]) (st' := [.ref 14]) (h' := h) (fun _ => rfl) ?_
  refine rt_gf rfl c1 rfl rfl ?_
  refine rt_k (k := 1) (pc' := 6) (L' := [some (.ref 14), some (.int (nI a)), some (.int (nI b))]) (st' := [.int (nI 16), .int (nI st.length)]) (h' := h) (fun _ => rfl) ?_
  refine rt_ige rfl (by omega) (by decide) (fun z => absurd z (by omega)) (fun _ => ?_)
  refine rt_k (k := 1) (pc' := 10) (L' := [some (.ref 14), some (.int (nI a)), some (.int (nI b))]) (st' := [.ref 14]) (h' := h) (fun _ => rfl) ?_
  refine rt_gf rfl c1 rfl rfl ?_
  refine rt_k (k := 1) (pc' := 14) (L' := [some (.ref 14), some (.int (nI a)), some (.int (nI b))]) (st' := [.ref 14, .ref 16]) (h' := h) (fun _ => rfl) ?_
  refine rt_gf rfl c1 rfl rfl ?_
  refine rt_k (k := 1) (pc' := 18) (L' := [some (.ref 14), some (.int (nI a)), some (.int (nI b))]) (st' := [.int (nI a), .int (nI st.length), .ref 16]) (h' := h) (fun _ => rfl) ?_
  refine rt_iasN rfl c3 rfl (by omega) (by decide) ?_
  have f_1 : fr_ (hS) h (h.set 16 (.inl (2, 16, .inl (upd SN st.length (nI a))))) := fr_set (e' := .inl (2, 16, .inl (upd SN st.length (nI a)))) c3 (by rfl) (by first | decide | simp)
  have c_2 := hs_ne (a := 16) (e' := .inl (2, 16, .inl (upd SN st.length (nI a)))) c1 (by decide)
  have c_3 := hs_ne (a := 16) (e' := .inl (2, 16, .inl (upd SN st.length (nI a)))) c2 (by decide)
  have c_4 := hs_ne (a := 16) (e' := .inl (2, 16, .inl (upd SN st.length (nI a)))) c4 (by decide)
  have c_5 := hs_self (e' := .inl (2, 16, .inl (upd SN st.length (nI a)))) c3
  refine rt_k (k := 1) (pc' := 20) (L' := [some (.ref 14), some (.int (nI a)), some (.int (nI b))]) (st' := [.ref 14]) (h' := (h.set 16 (.inl (2, 16, .inl (upd SN st.length (nI a)))))) (fun _ => rfl) ?_
  refine rt_gf rfl c_2 rfl rfl ?_
  refine rt_k (k := 1) (pc' := 24) (L' := [some (.ref 14), some (.int (nI a)), some (.int (nI b))]) (st' := [.ref 14, .ref 17]) (h' := (h.set 16 (.inl (2, 16, .inl (upd SN st.length (nI a)))))) (fun _ => rfl) ?_
  refine rt_gf rfl c_2 rfl rfl ?_
  refine rt_k (k := 1) (pc' := 28) (L' := [some (.ref 14), some (.int (nI a)), some (.int (nI b))]) (st' := [.int (nI b), .int (nI st.length), .ref 17]) (h' := (h.set 16 (.inl (2, 16, .inl (upd SN st.length (nI a)))))) (fun _ => rfl) ?_
  refine rt_iasN rfl c_4 rfl (by omega) (by decide) ?_
  have f_6 : fr_ (hS) h ((h.set 16 (.inl (2, 16, .inl (upd SN st.length (nI a))))).set 17 (.inl (2, 16, .inl (upd SC st.length (nI b))))) := fr_tr f_1 (fr_set (e' := .inl (2, 16, .inl (upd SC st.length (nI b)))) c_4 (by rfl) (by first | decide | simp))
  have c_7 := hs_ne (a := 17) (e' := .inl (2, 16, .inl (upd SC st.length (nI b)))) c_2 (by decide)
  have c_8 := hs_ne (a := 17) (e' := .inl (2, 16, .inl (upd SC st.length (nI b)))) c_3 (by decide)
  have c_9 := hs_ne (a := 17) (e' := .inl (2, 16, .inl (upd SC st.length (nI b)))) c_5 (by decide)
  have c_10 := hs_self (e' := .inl (2, 16, .inl (upd SC st.length (nI b)))) c_4
  refine rt_k (k := 2) (pc' := 31) (L' := [some (.ref 14), some (.int (nI a)), some (.int (nI b))]) (st' := [.ref 14, .ref 14]) (h' := ((h.set 16 (.inl (2, 16, .inl (upd SN st.length (nI a))))).set 17 (.inl (2, 16, .inl (upd SC st.length (nI b)))))) (fun _ => rfl) ?_
  refine rt_gf rfl c_7 rfl rfl ?_
  refine rt_k (k := 1) (pc' := 35) (L' := [some (.ref 14), some (.int (nI a)), some (.int (nI b))]) (st' := [.int (nI 1), .int (nI st.length), .ref 14]) (h' := ((h.set 16 (.inl (2, 16, .inl (upd SN st.length (nI a))))).set 17 (.inl (2, 16, .inl (upd SC st.length (nI b)))))) (fun _ => rfl) ?_
  refine rt_add rfl ?_
  refine rt_pf rfl c_7 ⟨rfl, (show 5 < 6 by decide), rfl⟩ ?_
  have f_11 : fr_ (hS) h (((h.set 16 (.inl (2, 16, .inl (upd SN st.length (nI a))))).set 17 (.inl (2, 16, .inl (upd SC st.length (nI b))))).set 14 (.inr (6, [.ref 15, .int (nI n), .int (nI made), .ref 16, .ref 17, .int (nI (st.length + 1))]))) := fr_tr f_6 (fr_set (e' := .inr (6, [.ref 15, .int (nI n), .int (nI made), .ref 16, .ref 17, .int (nI (st.length + 1))])) c_7 (by rfl) (by first | decide | simp))
  have c_12 := hs_ne (a := 14) (e' := .inr (6, [.ref 15, .int (nI n), .int (nI made), .ref 16, .ref 17, .int (nI (st.length + 1))])) c_8 (by decide)
  have c_13 := hs_ne (a := 14) (e' := .inr (6, [.ref 15, .int (nI n), .int (nI made), .ref 16, .ref 17, .int (nI (st.length + 1))])) c_9 (by decide)
  have c_14 := hs_ne (a := 14) (e' := .inr (6, [.ref 15, .int (nI n), .int (nI made), .ref 16, .ref 17, .int (nI (st.length + 1))])) c_10 (by decide)
  have c_15 := hs_self (e' := .inr (6, [.ref 15, .int (nI n), .int (nI made), .ref 16, .ref 17, .int (nI (st.length + 1))])) c_7
  refine rt_r (v := none) rfl rfl ⟨rfl, f_11, _, _, ?_, c_12, c_13, c_14, ?_, ?_⟩
  · rw [List.length_append]; exact c_15
  · rw [List.length_append]; exact hl
  · intro i e he
    unfold upd
    rcases gt_snoc he with q | ⟨q1, q2⟩
    · have := gt_lt q
      rw [if_neg (by omega), if_neg (by omega)]
      exact c6 i e q
    · subst q1; subst q2
      rw [if_pos rfl, if_pos rfl]
      exact ⟨rfl, rfl⟩
/-- the steps from one generation to another -/
noncomputable def wk1 (g t : kG) : kS := (g.filter (fun e => @decide (¬ inG t (nI (lNo e.1))) (Classical.propDecidable _))).map (fun e => (lNo e.1, 0))
noncomputable def wk2 (g t : kG) : kS := (g.filter (fun e => @decide (¬ inG t (nI (lNo e.1))) (Classical.propDecidable _))).map (fun e => (lNo e.1, 1))
noncomputable def wkS (g t : kG) : kS := wk1 g.reverse t ++ wk2 t g
theorem wk1_len (g t : kG) : (wk1 g t).length ≤ g.length := by unfold wk1; rw [List.length_map]; exact List.length_filter_le _ _
theorem wk2_len (g t : kG) : (wk2 g t).length ≤ g.length := by unfold wk2; rw [List.length_map]; exact List.length_filter_le _ _
theorem wk1_i {g t : kG} {e : kL × Nat} (q : inG t (nI (lNo e.1))) : wk1 (g ++ [e]) t = wk1 g t := by
  unfold wk1
  rw [List.filter_append, List.map_append]
  simp [q]
theorem wk1_o {g t : kG} {e : kL × Nat} (q : ¬ inG t (nI (lNo e.1))) : wk1 (g ++ [e]) t = wk1 g t ++ [(lNo e.1, 0)] := by
  unfold wk1
  rw [List.filter_append, List.map_append]
  simp [q]
theorem wk2_i {g t : kG} {e : kL × Nat} (q : inG t (nI (lNo e.1))) : wk2 (g ++ [e]) t = wk2 g t := by
  unfold wk2
  rw [List.filter_append, List.map_append]
  simp [q]
theorem wk2_o {g t : kG} {e : kL × Nat} (q : ¬ inG t (nI (lNo e.1))) : wk2 (g ++ [e]) t = wk2 g t ++ [(lNo e.1, 1)] := by
  unfold wk2
  rw [List.filter_append, List.map_append]
  simp [q]
theorem drop_rv {α : Type} {g : List α} {j : Nat} {e : α} (h : g[j]? = some e) : (g.drop j).reverse = (g.drop (j + 1)).reverse ++ [e] := by
  obtain ⟨hj, rfl⟩ := List.getElem?_eq_some_iff.mp h
  rw [List.drop_eq_getElem_cons hj, List.reverse_cons]
theorem take_sn {α : Type} {g : List α} {j : Nat} {e : α} (h : g[j]? = some e) : g.take (j + 1) = g.take j ++ [e] := by
  rw [List.take_add_one, h]; rfl
theorem his_s1 {a b : Nat} {g t : kG} (j : Nat) (h : List va_E) (C : hC h n made F (wk1 (g.drop j).reverse t)) (A : zG h a g) (B : zG h b t) (hj : j ≤ g.length) (k : ∀ h' x, fr_ hS h h' → hC h' n made F (wk1 g.reverse t) → rt_ X (d + 1) 105 50 [some (.ref 14), some (.ref a), some (.ref b), x] [] h' Q) : rt_ X (d + 1) 105 12 [some (.ref 14), some (.ref a), some (.ref b), some (.int (dI j))] [] h Q := by
  obtain ⟨od, ci, G, S, ⟨-, a1⟩, ⟨-, a2⟩, ⟨-, a3⟩, hn, HG⟩ := id A
  obtain ⟨od', ci', G', S', ⟨-, b1⟩, -⟩ := id B
  refine rt_k (k := 1) (pc' := 13) (L' := [some (.ref 14), some (.ref a), some (.ref b), some (.int (dI j))]) (st' := [.int (dI j)]) (h' := h) (fun _ => rfl) ?_
  refine rt_qlt rfl (fun z => ?_) (fun z => ?_)
  ·
    have e : j = 0 := (dI_lt (by omega)).mp z
    subst e
    exact k h _ fr_rf C
  have hz : ¬ j = 0 := fun q => z ((dI_lt (by omega)).mpr q)
  obtain ⟨i, rfl⟩ : ∃ i, j = i + 1 := ⟨j - 1, by omega⟩
  rw [dI_s]
  obtain ⟨e, he⟩ := gt_ex (l := g) (i := i) (by omega)
  obtain ⟨-, c, fc, v, nd, bk, ps, pf, ⟨-, cc⟩, -⟩ := HG i e he
  obtain ⟨SN, SC, h1, -⟩ := id C
  refine rt_k (k := 3) (pc' := 19) (L' := [some (.ref 14), some (.ref a), some (.ref b), some (.int (nI i))]) (st' := [.int (nI i), .ref a, .ref b]) (h' := h) (fun _ => rfl) ?_
  refine rt_cvE (v := some (.ref c)) (h' := h) rfl (by decide) a1 rfl rfl rfl rfl ?_ ?_
  · refine rt_k (k := 1) (pc' := 1) (L' := [some (.ref a), some (.int (nI i))]) (st' := [.ref a]) (h' := h) (fun _ => rfl) ?_
    refine rt_gf rfl a1 rfl rfl ?_
    refine rt_k (k := 1) (pc' := 5) (L' := [some (.ref a), some (.int (nI i))]) (st' := [.int (nI i), .ref od]) (h' := h) (fun _ => rfl) ?_
    refine rt_aalN rfl a2 rfl (by omega) (by omega) fc ?_
    exact rt_r (v := some (.ref c)) rfl rfl ⟨rfl, rfl⟩
  refine rt_gf rfl cc rfl rfl ?_
  refine rt_cvE rfl (by decide) b1 rfl rfl rfl rfl (gen_has B (nI (lNo e.1))) ?_
  refine rt_pn rfl (fun zi => ?_) (fun zi => ?_)
  ·
    refine rt_dcr rfl rfl ?_
    refine rt_k (k := 1) (pc' := 12) (L' := [some (.ref 14), some (.ref a), some (.ref b), some (.int (dI i))]) (st' := []) (h' := h) (fun _ => rfl) ?_
    have C' : hC h n made F (wk1 (g.drop i).reverse t) := by rw [drop_rv he, wk1_i zi]; exact C
    exact his_s1 i h C' A B (by omega) k
  have hw : (wk1 (g.drop (i + 1)).reverse t).length < 16 := by
    have := wk1_len (g.drop (i + 1)).reverse t
    rw [List.length_reverse, List.length_drop] at this
    omega
  refine rt_k (k := 3) (pc' := 34) (L' := [some (.ref 14), some (.ref a), some (.ref b), some (.int (nI i))]) (st' := [.int (nI i), .ref a, .ref 14]) (h' := h) (fun _ => rfl) ?_
  refine rt_cvE (v := some (.ref c)) (h' := h) rfl (by decide) a1 rfl rfl rfl rfl ?_ ?_
  · refine rt_k (k := 1) (pc' := 1) (L' := [some (.ref a), some (.int (nI i))]) (st' := [.ref a]) (h' := h) (fun _ => rfl) ?_
    refine rt_gf rfl a1 rfl rfl ?_
    refine rt_k (k := 1) (pc' := 5) (L' := [some (.ref a), some (.int (nI i))]) (st' := [.int (nI i), .ref od]) (h' := h) (fun _ => rfl) ?_
    refine rt_aalN rfl a2 rfl (by omega) (by omega) fc ?_
    exact rt_r (v := some (.ref c)) rfl rfl ⟨rfl, rfl⟩
  refine rt_gf rfl cc rfl rfl ?_
  refine rt_k (k := 1) (pc' := 41) (L' := [some (.ref 14), some (.ref a), some (.ref b), some (.int (nI i))]) (st' := [.int (nI 0), .int (nI (lNo e.1)), .ref 14]) (h' := h) (fun _ => rfl) ?_
  refine rt_cv rfl (by decide) h1 rfl rfl rfl rfl (his_add C hw (lNo e.1) 0) ?_
  rintro _ h' ⟨rfl, f1, C1⟩
  refine rt_dcr rfl rfl ?_
  refine rt_k (k := 1) (pc' := 12) (L' := [some (.ref 14), some (.ref a), some (.ref b), some (.int (dI i))]) (st' := []) (h' := h') (fun _ => rfl) ?_
  have C' : hC h' n made F (wk1 (g.drop i).reverse t) := by rw [drop_rv he, wk1_o zi]; exact C1
  exact his_s1 i h' C' (A.ex (fr_ex f1 hS_zz)) (B.ex (fr_ex f1 hS_zz)) (by omega) (fun h2 x f2 => k h2 x (fr_tr f1 f2))
termination_by j
theorem his_s2 {a b : Nat} {g t : kG} {S1 : kS} (hS1 : S1.length ≤ 8) (j : Nat) (h : List va_E) (C : hC h n made F (S1 ++ wk2 (t.take j) g)) (A : zG h a g) (B : zG h b t) (hj : j ≤ t.length) (k : ∀ h' x, fr_ hS h h' → hC h' n made F (S1 ++ wk2 t g) → rt_ X (d + 1) 105 94 [some (.ref 14), some (.ref a), some (.ref b), x] [] h' Q) : rt_ X (d + 1) 105 52 [some (.ref 14), some (.ref a), some (.ref b), some (.int (nI j))] [] h Q := by
  obtain ⟨od, ci, G, S, ⟨-, b1⟩, ⟨-, b2⟩, ⟨-, b3⟩, hn, HG⟩ := id B
  obtain ⟨od', ci', G', S', ⟨-, a1⟩, -⟩ := id A
  obtain ⟨SN, SC, h1, -⟩ := id C
  refine rt_k (k := 2) (pc' := 54) (L' := [some (.ref 14), some (.ref a), some (.ref b), some (.int (nI j))]) (st' := [.ref b, .int (nI j)]) (h' := h) (fun _ => rfl) ?_
  refine rt_cvE (v := some (.int (nI t.length))) (h' := h) rfl (by decide) b1 rfl rfl rfl rfl ?_ ?_
  · refine rt_k (k := 1) (pc' := 1) (L' := [some (.ref b)]) (st' := [.ref b]) (h' := h) (fun _ => rfl) ?_
    refine rt_gf rfl b1 rfl rfl ?_
    exact rt_r (v := some (.int (nI t.length))) rfl rfl ⟨rfl, rfl⟩
  refine rt_ige rfl (by omega) (by omega) (fun z => ?_) (fun z => ?_)
  ·
    rw [List.take_of_length_le z] at C
    exact k h _ fr_rf C
  obtain ⟨e, he⟩ := gt_ex z
  obtain ⟨-, c, fc, v, nd, bk, ps, pf, ⟨-, cc⟩, -⟩ := HG j e he
  refine rt_k (k := 3) (pc' := 63) (L' := [some (.ref 14), some (.ref a), some (.ref b), some (.int (nI j))]) (st' := [.int (nI j), .ref b, .ref a]) (h' := h) (fun _ => rfl) ?_
  refine rt_cvE (v := some (.ref c)) (h' := h) rfl (by decide) b1 rfl rfl rfl rfl ?_ ?_
  · refine rt_k (k := 1) (pc' := 1) (L' := [some (.ref b), some (.int (nI j))]) (st' := [.ref b]) (h' := h) (fun _ => rfl) ?_
    refine rt_gf rfl b1 rfl rfl ?_
    refine rt_k (k := 1) (pc' := 5) (L' := [some (.ref b), some (.int (nI j))]) (st' := [.int (nI j), .ref od]) (h' := h) (fun _ => rfl) ?_
    refine rt_aalN rfl b2 rfl (by omega) (by omega) fc ?_
    exact rt_r (v := some (.ref c)) rfl rfl ⟨rfl, rfl⟩
  refine rt_gf rfl cc rfl rfl ?_
  refine rt_cvE rfl (by decide) a1 rfl rfl rfl rfl (gen_has A (nI (lNo e.1))) ?_
  refine rt_pn rfl (fun zi => ?_) (fun zi => ?_)
  ·
    refine rt_inc (c := 1) rfl rfl ?_
    refine rt_k (k := 1) (pc' := 52) (L' := [some (.ref 14), some (.ref a), some (.ref b), some (.int (nI (j + 1)))]) (st' := []) (h' := h) (fun _ => rfl) ?_
    have C' : hC h n made F (S1 ++ wk2 (t.take (j + 1)) g) := by rw [take_sn he, wk2_i zi]; exact C
    exact his_s2 hS1 (j + 1) h C' A B z k
  have hw : (S1 ++ wk2 (t.take j) g).length < 16 := by
    have := wk2_len (t.take j) g
    rw [List.length_take] at this
    rw [List.length_append]
    omega
  refine rt_k (k := 3) (pc' := 78) (L' := [some (.ref 14), some (.ref a), some (.ref b), some (.int (nI j))]) (st' := [.int (nI j), .ref b, .ref 14]) (h' := h) (fun _ => rfl) ?_
  refine rt_cvE (v := some (.ref c)) (h' := h) rfl (by decide) b1 rfl rfl rfl rfl ?_ ?_
  · refine rt_k (k := 1) (pc' := 1) (L' := [some (.ref b), some (.int (nI j))]) (st' := [.ref b]) (h' := h) (fun _ => rfl) ?_
    refine rt_gf rfl b1 rfl rfl ?_
    refine rt_k (k := 1) (pc' := 5) (L' := [some (.ref b), some (.int (nI j))]) (st' := [.int (nI j), .ref od]) (h' := h) (fun _ => rfl) ?_
    refine rt_aalN rfl b2 rfl (by omega) (by omega) fc ?_
    exact rt_r (v := some (.ref c)) rfl rfl ⟨rfl, rfl⟩
  refine rt_gf rfl cc rfl rfl ?_
  refine rt_k (k := 1) (pc' := 85) (L' := [some (.ref 14), some (.ref a), some (.ref b), some (.int (nI j))]) (st' := [.int (nI 1), .int (nI (lNo e.1)), .ref 14]) (h' := h) (fun _ => rfl) ?_
  refine rt_cv rfl (by decide) h1 rfl rfl rfl rfl (his_add C hw (lNo e.1) 1) ?_
  rintro _ h' ⟨rfl, f1, C1⟩
  refine rt_inc (c := 1) rfl rfl ?_
  refine rt_k (k := 1) (pc' := 52) (L' := [some (.ref 14), some (.ref a), some (.ref b), some (.int (nI (j + 1)))]) (st' := []) (h' := h') (fun _ => rfl) ?_
  have C' : hC h' n made F (S1 ++ wk2 (t.take (j + 1)) g) := by rw [take_sn he, wk2_o zi, ← List.append_assoc]; exact C1
  exact his_s2 hS1 (j + 1) h' C' (A.ex (fr_ex f1 hS_zz)) (B.ex (fr_ex f1 hS_zz)) z (fun h2 x f2 => k h2 x (fr_tr f1 f2))
termination_by t.length - j
theorem his_steps {a b : Nat} {g t : kG} {st : kS} (C : hC h n made F st) (A : zG h a g) (B : zG h b t) : rt_ X (d + 1) 105 0 [some (.ref 14), some (.ref a), some (.ref b), none] [] h (fun v h' => v = none ∧ fr_ hS h h' ∧ hC h' n made F (wkS g t)) := by
  obtain ⟨SN, SC, c1, c2, c3, c4, -, -⟩ := C
  obtain ⟨od, ci, G, S, ⟨-, a1⟩, ⟨-, a2⟩, ⟨-, a3⟩, hn, HG⟩ := id A
  refine rt_k (k := 2) (pc' := 2) (L' := [some (.ref 14), some (.ref a), some (.ref b), none]) (st' := [.int (nI 0), .ref 14]) (h' := h) (fun _ => rfl) ?_
  refine rt_pf rfl c1 ⟨rfl, (show 5 < 6 by decide), rfl⟩ ?_
  have f_16 : fr_ (hS) h (h.set 14 (.inr (6, [.ref 15, .int (nI n), .int (nI made), .ref 16, .ref 17, .int (nI 0)]))) := fr_set (e' := .inr (6, [.ref 15, .int (nI n), .int (nI made), .ref 16, .ref 17, .int (nI 0)])) c1 (by rfl) (by first | decide | simp)
  have x_17 : ex_ h (h.set 14 (.inr (6, [.ref 15, .int (nI n), .int (nI made), .ref 16, .ref 17, .int (nI 0)]))) := ex_set (e := .inr (6, [.ref 15, .int (nI n), .int (nI made), .ref 16, .ref 17, .int (nI 0)])) (by unfold zz; omega)
  have c_18 := hs_ne (a := 14) (e' := .inr (6, [.ref 15, .int (nI n), .int (nI made), .ref 16, .ref 17, .int (nI 0)])) c2 (by decide)
  have c_19 := hs_ne (a := 14) (e' := .inr (6, [.ref 15, .int (nI n), .int (nI made), .ref 16, .ref 17, .int (nI 0)])) c3 (by decide)
  have c_20 := hs_ne (a := 14) (e' := .inr (6, [.ref 15, .int (nI n), .int (nI made), .ref 16, .ref 17, .int (nI 0)])) c4 (by decide)
  have c_21 := hs_ne (a := 14) (e' := .inr (6, [.ref 15, .int (nI n), .int (nI made), .ref 16, .ref 17, .int (nI 0)])) a1 (fun q => by subst q; rw [c1] at a1; cases a1)
  have c_22 := hs_self (e' := .inr (6, [.ref 15, .int (nI n), .int (nI made), .ref 16, .ref 17, .int (nI 0)])) c1
  refine rt_k (k := 1) (pc' := 6) (L' := [some (.ref 14), some (.ref a), some (.ref b), none]) (st' := [.ref a]) (h' := (h.set 14 (.inr (6, [.ref 15, .int (nI n), .int (nI made), .ref 16, .ref 17, .int (nI 0)])))) (fun _ => rfl) ?_
  refine rt_cvE (v := some (.int (nI g.length))) (h' := (h.set 14 (.inr (6, [.ref 15, .int (nI n), .int (nI made), .ref 16, .ref 17, .int (nI 0)])))) rfl (by decide) c_21 rfl rfl rfl rfl ?_ ?_
  · refine rt_k (k := 1) (pc' := 1) (L' := [some (.ref a)]) (st' := [.ref a]) (h' := (h.set 14 (.inr (6, [.ref 15, .int (nI n), .int (nI made), .ref 16, .ref 17, .int (nI 0)])))) (fun _ => rfl) ?_
    refine rt_gf rfl c_21 rfl rfl ?_
    exact rt_r (v := some (.int (nI g.length))) rfl rfl ⟨rfl, rfl⟩
  have C1 : hC (h.set 14 (.inr (6, [.ref 15, .int (nI n), .int (nI made), .ref 16, .ref 17, .int (nI 0)]))) n made F (wk1 (g.drop g.length).reverse t) := ⟨SN, SC, by rw [List.drop_length]; exact c_22, c_18, c_19, c_20, by rw [List.drop_length]; exact Nat.zero_le _, by rw [List.drop_length]; intro i e he; cases he⟩
  have e1 : nI g.length - nI 1 = dI g.length := by rw [← dI_d, show Int32.ofInt (-1) = - nI 1 from by decide, ← Int32.sub_eq_add_neg]
  refine rt_k (k := 3) (pc' := 12) (L' := [some (.ref 14), some (.ref a), some (.ref b), some (.int (dI g.length))]) (st' := []) (h' := (h.set 14 (.inr (6, [.ref 15, .int (nI n), .int (nI made), .ref 16, .ref 17, .int (nI 0)])))) (fun _ => by rw [← e1]; rfl) ?_
  refine his_s1 g.length _ C1 (A.ex x_17) (B.ex x_17) (Nat.le_refl _) (fun h2 x f2 C2 => ?_)
  refine rt_k (k := 2) (pc' := 52) (L' := [some (.ref 14), some (.ref a), some (.ref b), some (.int (nI 0))]) (st' := []) (h' := h2) (fun _ => rfl) ?_
  have l1 := wk1_len g.reverse t
  rw [List.length_reverse] at l1
  refine his_s2 (S1 := wk1 g.reverse t) (by omega) 0 h2 (by rw [List.take_zero]; exact (List.append_nil (wk1 g.reverse t)).symm ▸ C2) ((A.ex x_17).ex (fr_ex f2 hS_zz)) ((B.ex x_17).ex (fr_ex f2 hS_zz)) (Nat.zero_le _) (fun h3 x f3 C3 => ?_)
  exact rt_r (v := none) rfl rfl ⟨rfl, fr_tr (fr_tr f_16 f2) f3, C3⟩
end HI

