/-! THE INDEX, 3: insertion, removal. DEMANDS: one more, one in another's place, one less. PATHS. -/
theorem gt_snoc {α : Type} {l : List α} {x e : α} {i : Nat} (h : (l ++ [x])[i]? = some e) : l[i]? = some e ∨ (i = l.length ∧ e = x) := by
  by_cases q : i < l.length
  · rw [List.getElem?_append_left q] at h; exact Or.inl h
  · rw [List.getElem?_append_right (by omega)] at h
    have : i - l.length = 0 := by
      have := gt_lt h
      simp at this
      omega
    rw [this] at h
    cases h
    exact Or.inr ⟨by omega, rfl⟩
theorem gt_ins {α : Type} {l : List α} {x e : α} {p i : Nat} (hp : p ≤ l.length) (h : (l.take p ++ x :: l.drop p)[i]? = some e) : (i < p ∧ l[i]? = some e) ∨ (i = p ∧ e = x) ∨ (p < i ∧ l[i - 1]? = some e) := by
  have hl : (l.take p).length = p := by rw [List.length_take]; omega
  by_cases q : i < p
  · rw [List.getElem?_append_left (by omega), List.getElem?_take_of_lt q] at h
    exact Or.inl ⟨q, h⟩
  · rw [List.getElem?_append_right (by omega), hl] at h
    by_cases q2 : i = p
    · subst q2
      rw [Nat.sub_self] at h
      cases h
      exact Or.inr (Or.inl ⟨rfl, rfl⟩)
    · obtain ⟨j, hj⟩ : ∃ j, i - p = j + 1 := ⟨i - p - 1, by omega⟩
      rw [hj, List.getElem?_cons_succ, List.getElem?_drop] at h
      have e1 : p + j = i - 1 := by omega
      rw [e1] at h
      exact Or.inr (Or.inr ⟨by omega, h⟩)
theorem ins_len {α : Type} {l : List α} {x : α} {p : Nat} (hp : p ≤ l.length) : (l.take p ++ x :: l.drop p).length = l.length + 1 := by
  rw [List.length_append, List.length_take, List.length_cons, List.length_drop]; omega
theorem gt_era {α : Type} {l : List α} {e : α} {p i : Nat} (h : (l.eraseIdx p)[i]? = some e) : (i < p ∧ l[i]? = some e) ∨ (p ≤ i ∧ l[i + 1]? = some e) := by
  rw [List.getElem?_eraseIdx] at h
  split at h
  · next q => exact Or.inl ⟨q, h⟩
  · next q => exact Or.inr ⟨by omega, h⟩
section IX3
variable {X : Nat × (Nat → Int32)} {d : Nat} {h : List va_E} {Q : Option Value → List va_E → Prop} {I : List kL} {nx : Nat}
theorem ix_ins1 {m : Nat} {s : kL} {F : Nat → Option Nat} (hn : I.length < 32) (p : Nat) (h : List va_E) (G : Nat → Option Nat) (c4 : h[4]? = some (.inr (3, [.ref 5, .int (nI I.length), .int (nI nx)]))) (c5 : h[5]? = some (.inl (5, 32, .inr (.inr (.inr (.inr G)))))) (M : zL h m s) (HI : cIf h F I) (hp : p ≤ I.length) (g1 : ∀ j, j < p → G j = F j) (g2 : ∀ j, p ≤ j → j < I.length → G (j + 1) = F j) (g3 : ∀ (j : Nat) r, p ≤ j → I[j]? = some r → oa s r < 0)
    (k : ∀ (h' : List va_E) (G' : Nat → Option Nat) (p' : Nat), fr_ (fun z => z = 5) h h' → h'[5]? = some (.inl (5, 32, .inr (.inr (.inr (.inr G'))))) → p' ≤ I.length → (∀ j, j < p' → G' j = F j) → (∀ j, p' ≤ j → j < I.length → G' (j + 1) = F j) → (∀ (j : Nat) r, p' ≤ j → I[j]? = some r → oa s r < 0) → (∀ r, 0 < p' → I[p' - 1]? = some r → ¬ oa s r < 0) → rt_ X (d + 2) 61 44 [some (.ref 4), some (.ref m), some (.int (nI p'))] [] h' Q) : rt_ X (d + 2) 61 5 [some (.ref 4), some (.ref m), some (.int (nI p))] [] h Q := by
  refine rt_k (k := 1) (pc' := 6) (L' := [some (.ref 4), some (.ref m), some (.int (nI p))]) (st' := [.int (nI p)]) (h' := h) (fun _ => rfl) ?_
  refine rt_zle rfl (by omega) (fun z => ?_) (fun z => ?_)
  ·
    exact k h G p fr_rf c5 hp g1 g2 g3 (fun r h0 _ => by omega)
  obtain ⟨r, hr⟩ := gt_ex (l := I) (i := p - 1) (by omega)
  obtain ⟨a, fa, za⟩ := HI _ r hr
  obtain ⟨v, nd, bk, ps, pf, ⟨-, ca⟩, -⟩ := id za
  obtain ⟨v', nd', bk', ps', pf', ⟨-, cm⟩, -⟩ := id M
  have ga : G (p - 1) = some a := by rw [g1 _ (by omega)]; exact fa
  refine rt_k (k := 2) (pc' := 11) (L' := [some (.ref 4), some (.ref m), some (.int (nI p))]) (st' := [.ref 4, .ref m]) (h' := h) (fun _ => rfl) ?_
  refine rt_gf rfl c4 rfl rfl ?_
  refine rt_k (k := 2) (pc' := 16) (L' := [some (.ref 4), some (.ref m), some (.int (nI p))]) (st' := [.int (nI 1), .int (nI p), .ref 5, .ref m]) (h' := h) (fun _ => rfl) ?_
  refine rt_sub rfl (by omega) ?_
  refine rt_aalN rfl c5 rfl (by omega) (by decide) ga ?_
  refine rt_cvE rfl (by decide) cm rfl rfl rfl rfl (rel_oa M za) ?_
  refine rt_qge rfl (fun z2 => ?_) (fun z2 => ?_)
  ·
    exact k h G p fr_rf c5 hp g1 g2 g3 (fun r' h0 hr' => by rw [hr] at hr'; cases hr'; exact Int32.not_lt.mpr z2)
  refine rt_k (k := 1) (pc' := 25) (L' := [some (.ref 4), some (.ref m), some (.int (nI p))]) (st' := [.ref 4]) (h' := h) (fun _ => rfl) ?_
  refine rt_gf rfl c4 rfl rfl ?_
  refine rt_k (k := 2) (pc' := 30) (L' := [some (.ref 4), some (.ref m), some (.int (nI p))]) (st' := [.ref 4, .int (nI p), .ref 5]) (h' := h) (fun _ => rfl) ?_
  refine rt_gf rfl c4 rfl rfl ?_
  refine rt_k (k := 2) (pc' := 35) (L' := [some (.ref 4), some (.ref m), some (.int (nI p))]) (st' := [.int (nI 1), .int (nI p), .ref 5, .int (nI p), .ref 5]) (h' := h) (fun _ => rfl) ?_
  refine rt_sub rfl (by omega) ?_
  refine rt_aalN rfl c5 rfl (by omega) (by decide) ga ?_
  refine rt_aasN rfl c5 ca ⟨rfl, rfl⟩ (by omega) (by decide) ?_
  have c_1 := hs_ne (a := 5) (e' := .inl (5, 32, .inr (.inr (.inr (.inr (va_up G p (some a))))))) c4 (by decide)
  have c_2 := hs_ne (a := 5) (e' := .inl (5, 32, .inr (.inr (.inr (.inr (va_up G p (some a))))))) ca (hc_ne c5 ca (by intro q; cases q))
  have c_3 := hs_ne (a := 5) (e' := .inl (5, 32, .inr (.inr (.inr (.inr (va_up G p (some a))))))) cm (hc_ne c5 cm (by intro q; cases q))
  have c_4 := hs_self (e' := .inl (5, 32, .inr (.inr (.inr (.inr (va_up G p (some a))))))) c5
  refine rt_dec rfl (by omega) rfl ?_
  refine rt_k (k := 1) (pc' := 5) (L' := [some (.ref 4), some (.ref m), some (.int (nI (p - 1)))]) (st' := []) (h' := (h.set 5 (.inl (5, 32, .inr (.inr (.inr (.inr (va_up G p (some a))))))))) (fun _ => rfl) ?_
  have fr : fr_ (fun z => z = 5) h (h.set 5 (.inl (5, 32, .inr (.inr (.inr (.inr (va_up G p (some a)))))))) := fr_set c5 rfl rfl
  have ex : ex_ h (h.set 5 (.inl (5, 32, .inr (.inr (.inr (.inr (va_up G p (some a)))))))) := ex_set (by unfold zz; omega)
  refine ix_ins1 hn (p - 1) _ (va_up G p (some a)) (hs_ne c4 (by decide)) (hs_self c5) (M.ex ex) (HI.ex ex) (by omega) (fun j hj => by rw [va_up_ne _ _ (by omega)]; exact g1 j (by omega)) (fun j h1 h2 => ?_) (fun j r' h1 hr' => ?_) (fun h' G' p' f1 f2 => k h' G' p' (fr_tr fr f1) f2)
  · by_cases q : j = p - 1
    · subst q
      rw [show p - 1 + 1 = p by omega, va_up_self]; exact fa.symm
    · rw [va_up_ne _ _ (by omega)]; exact g2 j (by omega) h2
  · by_cases q : j = p - 1
    · subst q; rw [hr] at hr'; cases hr'; exact Int32.not_le.mp z2
    · exact g3 j r' (by omega) hr'
termination_by p
/-- the index with one more -/
theorem ix_insert {m : Nat} {s : kL} (C : cI h I nx) (hn : I.length < 32) (hx : nx < 600) (M : zL h m s) : rt_ X (d + 2) 61 0 [some (.ref 4), some (.ref m), none] [] h (fun v h' => v = none ∧ fr_ (fun z => z = 4 ∨ z = 5) h h' ∧ ∃ p, p ≤ I.length ∧ (∀ (j : Nat) r, p ≤ j → I[j]? = some r → oa s r < 0) ∧ (∀ r, 0 < p → I[p - 1]? = some r → ¬ oa s r < 0) ∧ cI h' (I.take p ++ s :: I.drop p) (nx + 1)) := by
  obtain ⟨F, c4, c5, -, -, HI⟩ := id C
  refine rt_k (k := 1) (pc' := 1) (L' := [some (.ref 4), some (.ref m), none]) (st' := [.ref 4]) (h' := h) (fun _ => rfl) ?_
  refine rt_gf rfl c4 rfl rfl ?_
  refine rt_k (k := 1) (pc' := 5) (L' := [some (.ref 4), some (.ref m), some (.int (nI I.length))]) (st' := []) (h' := h) (fun _ => rfl) ?_
  refine ix_ins1 hn I.length h F c4 c5 M HI (Nat.le_refl _) (fun _ _ => rfl) (fun j h1 h2 => by omega) (fun j r h1 hr => by have := gt_lt hr; omega) ?_
  intro h1 G p f1 c5' hp g1 g2 g3 g4
  have c4' := fr_at f1 (k := 4) (by decide) c4
  have M' := M.ex (fr_ex f1 (by unfold zz; omega))
  have HI' := HI.ex (fr_ex f1 (by unfold zz; omega))
  obtain ⟨v', nd', bk', ps', pf', ⟨-, cm⟩, -⟩ := id M'
  refine rt_k (k := 1) (pc' := 45) (L' := [some (.ref 4), some (.ref m), some (.int (nI p))]) (st' := [.ref 4]) (h' := h1) (fun _ => rfl) ?_
  refine rt_gf rfl c4' rfl rfl ?_
  refine rt_k (k := 2) (pc' := 50) (L' := [some (.ref 4), some (.ref m), some (.int (nI p))]) (st' := [.ref m, .int (nI p), .ref 5]) (h' := h1) (fun _ => rfl) ?_
  refine rt_aasN rfl c5' cm ⟨rfl, rfl⟩ (by omega) (by decide) ?_
  have c_5 := hs_ne (a := 5) (e' := .inl (5, 32, .inr (.inr (.inr (.inr (va_up G p (some m))))))) c4' (by decide)
  have c_6 := hs_ne (a := 5) (e' := .inl (5, 32, .inr (.inr (.inr (.inr (va_up G p (some m))))))) cm (fun q => by subst q; rw [c5'] at cm; cases cm)
  have c_7 := hs_self (e' := .inl (5, 32, .inr (.inr (.inr (.inr (va_up G p (some m))))))) c5'
  refine rt_k (k := 2) (pc' := 53) (L' := [some (.ref 4), some (.ref m), some (.int (nI p))]) (st' := [.ref 4, .ref 4]) (h' := (h1.set 5 (.inl (5, 32, .inr (.inr (.inr (.inr (va_up G p (some m))))))))) (fun _ => rfl) ?_
  refine rt_gf rfl c_5 rfl rfl ?_
  refine rt_k (k := 1) (pc' := 57) (L' := [some (.ref 4), some (.ref m), some (.int (nI p))]) (st' := [.int (nI 1), .int (nI I.length), .ref 4]) (h' := (h1.set 5 (.inl (5, 32, .inr (.inr (.inr (.inr (va_up G p (some m))))))))) (fun _ => rfl) ?_
  refine rt_add rfl ?_
  refine rt_pf rfl c_5 ⟨rfl, (show 1 < 3 by decide), rfl⟩ ?_
  have c_8 := hs_ne (a := 4) (e' := .inr (3, [.ref 5, .int (nI (I.length + 1)), .int (nI nx)])) c_7 (by decide)
  have c_9 := hs_ne (a := 4) (e' := .inr (3, [.ref 5, .int (nI (I.length + 1)), .int (nI nx)])) c_6 (fun q => by subst q; rw [c4'] at cm; cases cm)
  have c_10 := hs_self (e' := .inr (3, [.ref 5, .int (nI (I.length + 1)), .int (nI nx)])) c_5
  refine rt_k (k := 2) (pc' := 63) (L' := [some (.ref 4), some (.ref m), some (.int (nI p))]) (st' := [.ref 4, .ref 4]) (h' := ((h1.set 5 (.inl (5, 32, .inr (.inr (.inr (.inr (va_up G p (some m)))))))).set 4 (.inr (3, [.ref 5, .int (nI (I.length + 1)), .int (nI nx)])))) (fun _ => rfl) ?_
  refine rt_gf rfl c_10 rfl rfl ?_
  refine rt_k (k := 1) (pc' := 67) (L' := [some (.ref 4), some (.ref m), some (.int (nI p))]) (st' := [.int (nI 1), .int (nI nx), .ref 4]) (h' := ((h1.set 5 (.inl (5, 32, .inr (.inr (.inr (.inr (va_up G p (some m)))))))).set 4 (.inr (3, [.ref 5, .int (nI (I.length + 1)), .int (nI nx)])))) (fun _ => rfl) ?_
  refine rt_add rfl ?_
  refine rt_pf rfl c_10 ⟨rfl, (show 2 < 3 by decide), rfl⟩ ?_
  have c_11 := hs_ne (a := 4) (e' := .inr (3, [.ref 5, .int (nI (I.length + 1)), .int (nI (nx + 1))])) c_8 (by decide)
  have c_12 := hs_ne (a := 4) (e' := .inr (3, [.ref 5, .int (nI (I.length + 1)), .int (nI (nx + 1))])) c_9 (fun q => by subst q; rw [c4'] at cm; cases cm)
  have c_13 := hs_self (e' := .inr (3, [.ref 5, .int (nI (I.length + 1)), .int (nI (nx + 1))])) c_10
  refine rt_r (v := none) rfl rfl ⟨rfl, ?_, p, hp, g3, g4, ?_⟩
  · exact fr_tr (fr_tr (fr_tr (fr_mo f1 (fun k q => Or.inr q)) (fr_set c5' (by rfl) (Or.inr rfl))) (fr_set (hs_ne c4' (by decide)) (by rfl) (Or.inl rfl))) (fr_set (hs_self (hs_ne c4' (by decide))) (by rfl) (Or.inl rfl))
  · have ex : ex_ h1 _ := ex_tr (ex_tr (ex_set (h := h1) (a := 5) (e := .inl (5, 32, .inr (.inr (.inr (.inr (va_up G p (some m))))))) (by unfold zz; omega)) (ex_set (a := 4) (e := .inr (3, [.ref 5, .int (nI (I.length + 1)), .int (nI nx)])) (by unfold zz; omega))) (ex_set (a := 4) (e := .inr (3, [.ref 5, .int (nI (I.length + 1)), .int (nI (nx + 1))])) (by unfold zz; omega))
    refine ⟨va_up G p (some m), ?_, ?_, by rw [ins_len hp]; omega, by omega, ?_⟩
    · rw [ins_len hp]
      exact hs_self (hs_self (hs_ne (a := 5) c4' (by decide)))
    · exact hs_ne (hs_ne (hs_self c5') (by decide)) (by decide)
    · intro i r hr
      rcases gt_ins hp hr with ⟨q1, q2⟩ | ⟨q1, q2⟩ | ⟨q1, q2⟩
      · obtain ⟨a, fa, za⟩ := HI' i r q2
        exact ⟨a, by rw [va_up_ne _ _ (by omega), g1 _ q1]; exact fa, za.ex ex⟩
      · subst q1; subst q2
        exact ⟨m, va_up_self _ _ _, M'.ex ex⟩
      · obtain ⟨a, fa, za⟩ := HI' _ r q2
        refine ⟨a, ?_, za.ex ex⟩
        have := g2 (i - 1) (by omega) (gt_lt q2)
        rw [show i - 1 + 1 = i by omega] at this
        rw [va_up_ne _ _ (by omega), this]; exact fa
theorem ix_rem1 {F : Nat → Option Nat} {p : Nat} (hn : I.length ≤ 32) (i : Nat) (h : List va_E) (G : Nat → Option Nat) (c4 : h[4]? = some (.inr (3, [.ref 5, .int (nI (I.length - 1)), .int (nI nx)]))) (c5 : h[5]? = some (.inl (5, 32, .inr (.inr (.inr (.inr G)))))) (HI : cIf h F I) (hp : p < I.length) (hi : p ≤ i ∧ i ≤ I.length - 1) (g1 : ∀ j, j < p → G j = F j) (g2 : ∀ j, p ≤ j → j < i → G j = F (j + 1)) (g3 : ∀ j, i ≤ j → G j = F j)
    (k : ∀ (h' : List va_E) (G' : Nat → Option Nat), fr_ (fun z => z = 5) h h' → h'[5]? = some (.inl (5, 32, .inr (.inr (.inr (.inr G'))))) → (∀ j, j < p → G' j = F j) → (∀ j, p ≤ j → j < I.length - 1 → G' j = F (j + 1)) → rt_ X d 65 40 [some (.ref 4), some (.int (nI p)), some (.int (nI (I.length - 1)))] [] h' Q) : rt_ X d 65 12 [some (.ref 4), some (.int (nI p)), some (.int (nI i))] [] h Q := by
  refine rt_k (k := 2) (pc' := 14) (L' := [some (.ref 4), some (.int (nI p)), some (.int (nI i))]) (st' := [.ref 4, .int (nI i)]) (h' := h) (fun _ => rfl) ?_
  refine rt_gf rfl c4 rfl rfl ?_
  refine rt_ige rfl (by omega) (by omega) (fun z => ?_) (fun z => ?_)
  ·
    have e : i = I.length - 1 := by omega
    subst e
    exact k h G fr_rf c5 g1 g2
  obtain ⟨r, hr⟩ := gt_ex (l := I) (i := i + 1) (by omega)
  obtain ⟨a, fa, za⟩ := HI _ r hr
  obtain ⟨v, nd, bk, ps, pf, ⟨-, ca⟩, -⟩ := id za
  have ga : G (i + 1) = some a := by rw [g3 _ (by omega)]; exact fa
  refine rt_k (k := 1) (pc' := 21) (L' := [some (.ref 4), some (.int (nI p)), some (.int (nI i))]) (st' := [.ref 4]) (h' := h) (fun _ => rfl) ?_
  refine rt_gf rfl c4 rfl rfl ?_
  refine rt_k (k := 2) (pc' := 26) (L' := [some (.ref 4), some (.int (nI p)), some (.int (nI i))]) (st' := [.ref 4, .int (nI i), .ref 5]) (h' := h) (fun _ => rfl) ?_
  refine rt_gf rfl c4 rfl rfl ?_
  refine rt_k (k := 2) (pc' := 31) (L' := [some (.ref 4), some (.int (nI p)), some (.int (nI i))]) (st' := [.int (nI 1), .int (nI i), .ref 5, .int (nI i), .ref 5]) (h' := h) (fun _ => rfl) ?_
  refine rt_add rfl ?_
  refine rt_aalN rfl c5 rfl (by omega) (by decide) ga ?_
  refine rt_aasN rfl c5 ca ⟨rfl, rfl⟩ (by omega) (by decide) ?_
  have c_14 := hs_ne (a := 5) (e' := .inl (5, 32, .inr (.inr (.inr (.inr (va_up G i (some a))))))) c4 (by decide)
  have c_15 := hs_ne (a := 5) (e' := .inl (5, 32, .inr (.inr (.inr (.inr (va_up G i (some a))))))) ca (hc_ne c5 ca (by intro q; cases q))
  have c_16 := hs_self (e' := .inl (5, 32, .inr (.inr (.inr (.inr (va_up G i (some a))))))) c5
  refine rt_inc (c := 1) rfl rfl ?_
  refine rt_k (k := 1) (pc' := 12) (L' := [some (.ref 4), some (.int (nI p)), some (.int (nI (i + 1)))]) (st' := []) (h' := (h.set 5 (.inl (5, 32, .inr (.inr (.inr (.inr (va_up G i (some a))))))))) (fun _ => rfl) ?_
  have fr : fr_ (fun z => z = 5) h (h.set 5 (.inl (5, 32, .inr (.inr (.inr (.inr (va_up G i (some a)))))))) := fr_set c5 rfl rfl
  have ex : ex_ h (h.set 5 (.inl (5, 32, .inr (.inr (.inr (.inr (va_up G i (some a)))))))) := ex_set (by unfold zz; omega)
  refine ix_rem1 hn (i + 1) _ (va_up G i (some a)) (hs_ne c4 (by decide)) (hs_self c5) (HI.ex ex) hp ⟨by omega, by omega⟩ (fun j hj => by rw [va_up_ne _ _ (by omega)]; exact g1 j (by omega)) (fun j h1 h2 => ?_) (fun j hj => by rw [va_up_ne _ _ (by omega)]; exact g3 j (by omega)) (fun h' G' f1 f2 => k h' G' (fr_tr fr f1) f2)
  by_cases q : j = i
  · subst q; rw [va_up_self]; exact fa.symm
  · rw [va_up_ne _ _ q]; exact g2 j h1 (by omega)
termination_by I.length - i
theorem ix_remove {p : Nat} (C : cI h I nx) (hp : p < I.length) : rt_ X d 65 0 [some (.ref 4), some (.int (nI p)), none] [] h (fun v h' => v = none ∧ fr_ (fun z => z = 4 ∨ z = 5) h h' ∧ cI h' (I.eraseIdx p) nx) := by
  obtain ⟨F, c4, c5, hn, hx, HI⟩ := id C
  refine rt_k (k := 2) (pc' := 2) (L' := [some (.ref 4), some (.int (nI p)), none]) (st' := [.ref 4, .ref 4]) (h' := h) (fun _ => rfl) ?_
  refine rt_gf rfl c4 rfl rfl ?_
  refine rt_k (k := 1) (pc' := 6) (L' := [some (.ref 4), some (.int (nI p)), none]) (st' := [.int (nI 1), .int (nI I.length), .ref 4]) (h' := h) (fun _ => rfl) ?_
  refine rt_sub rfl (by omega) ?_
  refine rt_pf rfl c4 ⟨rfl, (show 1 < 3 by decide), rfl⟩ ?_
  have c_17 := hs_ne (a := 4) (e' := .inr (3, [.ref 5, .int (nI (I.length - 1)), .int (nI nx)])) c5 (by decide)
  have c_18 := hs_self (e' := .inr (3, [.ref 5, .int (nI (I.length - 1)), .int (nI nx)])) c4
  refine rt_k (k := 2) (pc' := 12) (L' := [some (.ref 4), some (.int (nI p)), some (.int (nI p))]) (st' := []) (h' := (h.set 4 (.inr (3, [.ref 5, .int (nI (I.length - 1)), .int (nI nx)])))) (fun _ => rfl) ?_
  have ex : ex_ h (h.set 4 (.inr (3, [.ref 5, .int (nI (I.length - 1)), .int (nI nx)]))) := ex_set (by unfold zz; omega)
  have fr : fr_ (fun z => z = 4 ∨ z = 5) h (h.set 4 (.inr (3, [.ref 5, .int (nI (I.length - 1)), .int (nI nx)]))) := fr_set c4 rfl (Or.inl rfl)
  refine ix_rem1 (F := F) hn p _ F (hs_self c4) (hs_ne c5 (by decide)) (HI.ex ex) hp ⟨by omega, by omega⟩ (fun _ _ => rfl) (fun j h1 h2 => by omega) (fun _ _ => rfl) ?_
  intro h1 G f1 c5' g1 g2
  have c4' := fr_at f1 (k := 4) (by decide) (hs_self c4)
  have HI' := (HI.ex ex).ex (fr_ex f1 (by unfold zz; omega))
  refine rt_k (k := 1) (pc' := 41) (L' := [some (.ref 4), some (.int (nI p)), some (.int (nI (I.length - 1)))]) (st' := [.ref 4]) (h' := h1) (fun _ => rfl) ?_
  refine rt_gf rfl c4' rfl rfl ?_
  refine rt_k (k := 1) (pc' := 45) (L' := [some (.ref 4), some (.int (nI p)), some (.int (nI (I.length - 1)))]) (st' := [.ref 4, .ref 5]) (h' := h1) (fun _ => rfl) ?_
  refine rt_gf rfl c4' rfl rfl ?_
  refine rt_k (k := 1) (pc' := 49) (L' := [some (.ref 4), some (.int (nI p)), some (.int (nI (I.length - 1)))]) (st' := [.null, .int (nI (I.length - 1)), .ref 5]) (h' := h1) (fun _ => rfl) ?_
  refine rt_aaO rfl c5' rfl (by omega) (by decide) ?_
  have c_19 := hs_ne (a := 5) (e' := .inl (5, 32, .inr (.inr (.inr (.inr (va_up G (I.length - 1) none)))))) c4' (by decide)
  have c_20 := hs_self (e' := .inl (5, 32, .inr (.inr (.inr (.inr (va_up G (I.length - 1) none)))))) c5'
  refine rt_r (v := none) rfl rfl ⟨rfl, fr_tr fr (fr_tr (fr_mo f1 (fun k q => Or.inr q)) (fr_set c5' rfl (Or.inr rfl))), va_up G (I.length - 1) none, ?_, hs_self c5', ?_, hx, ?_⟩
  · rw [List.length_eraseIdx_of_lt hp]; exact hs_ne c4' (by decide)
  · rw [List.length_eraseIdx_of_lt hp]; omega
  · intro i r hr
    have hi := gt_lt hr
    rw [List.length_eraseIdx_of_lt hp] at hi
    have ex2 : ex_ h1 _ := ex_set (h := h1) (a := 5) (e := .inl (5, 32, .inr (.inr (.inr (.inr (va_up G (I.length - 1) none)))))) (by unfold zz; omega)
    rcases gt_era hr with ⟨q1, q2⟩ | ⟨q1, q2⟩
    · obtain ⟨a, fa, za⟩ := HI' i r q2
      exact ⟨a, by rw [va_up_ne _ _ (by omega), g1 _ q1]; exact fa, za.ex ex2⟩
    · obtain ⟨a, fa, za⟩ := HI' _ r q2
      exact ⟨a, by rw [va_up_ne _ _ (by omega), g2 _ q1 hi]; exact fa, za.ex ex2⟩
end IX3

