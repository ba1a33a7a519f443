/-! MATHEMATICS, 7: found once; names and paths; an index that grows and shrinks. -/
section MA8
theorem bfr_as {x y : Option kL} (a : bfr x y) (b : bfr y x) : False := by
  cases x with
  | none => cases y with
    | none => exact a
    | some s => exact b
  | some r => cases y with
    | none => exact a
    | some s =>
      have a' : 0 < vc (lVe r) (lVe s) := a
      have b' : 0 < vc (lVe s) (lVe r) := b
      rw [vc_gt] at b'
      rcases vc3 (lVe r) (lVe s) with z | z | z <;> rw [z] at a' b' <;> first | exact absurd a' (by decide) | exact absurd b' (by decide)
theorem bfr_ir {x : Option kL} (a : bfr x x) : False := bfr_as a a
theorem lxb_as {A B : List (Option kL)} (a : lxb A B) (b : lxb B A) : False := by
  obtain ⟨k, h1, x, y, h2, h3, h4⟩ := a
  obtain ⟨j, g1, u, v, g2, g3, g4⟩ := b
  rcases Nat.lt_trichotomy k j with q | q | q
  · have := g1 k q
    rw [h2, h3] at this
    cases this
    exact bfr_ir h4
  · subst q
    rw [h2] at g3
    rw [h3] at g2
    cases g2
    cases g3
    exact bfr_as h4 g4
  · have := h1 j q
    rw [g2, g3] at this
    cases this
    exact bfr_ir g4
theorem fnd_uni {J : List kL} {D : kD} {a b : Option (List kL)} (h1 : fnd J D a) (h2 : fnd J D b) : a = b := by
  obtain ⟨N, n1, h1⟩ := h1
  obtain ⟨M, n2, h2⟩ := h2
  have : N = M := srt_uni (fun a b x y => i64_as x y) n1.1 n2.1 (fun w => (n1.2 w).trans (n2.2 w).symm)
  subst this
  cases a with
  | none => cases b with
    | none => rfl
    | some B => obtain ⟨A, a1, a2, a3, _⟩ := h2; rw [a2] at a3; exact absurd a3 (h1 A a1)
  | some B => cases b with
    | none => obtain ⟨A, a1, a2, a3, _⟩ := h1; rw [a2] at a3; exact absurd a3 (h2 A a1)
    | some C =>
      obtain ⟨A, a1, a2, a3, a4⟩ := h1
      obtain ⟨A', b1, b2, b3, b4⟩ := h2
      have : A = A' := by
        rcases a4 A' b1 (b2 ▸ b3) with q | q
        · exact q.symm
        · rcases b4 A a1 (a2 ▸ a3) with q' | q'
          · exact q'
          · exact absurd q (fun z => lxb_as z q')
      rw [a2, b2, this]
theorem fnd_cg {I J : List kL} {D : kD} {a : Option (List kL)} (h : ∀ r, r ∈ I ↔ r ∈ J) (f : fnd I D a) : fnd J D a := by
  obtain ⟨N, n1, h1⟩ := f
  have as : ∀ A, asg I N A ↔ asg J N A := fun A => ⟨fun x => ⟨x.1, fun k r y => ⟨(h r).mp (x.2 k r y).1, (x.2 k r y).2⟩⟩, fun x => ⟨x.1, fun k r y => ⟨(h r).mpr (x.2 k r y).1, (x.2 k r y).2⟩⟩⟩
  refine ⟨N, ⟨n1.1, fun w => (n1.2 w).trans ⟨fun ⟨r, x, y⟩ => ⟨r, (h r).mp x, y⟩, fun ⟨r, x, y⟩ => ⟨r, (h r).mpr x, y⟩⟩⟩, ?_⟩
  cases a with
  | none => exact fun A x => h1 A ((as A).mpr x)
  | some B =>
    obtain ⟨A, a1, a2, a3, a4⟩ := h1
    exact ⟨A, (as A).mp a1, a2, a3, fun A' x => a4 A' ((as A').mpr x)⟩
theorem nm_sm {w : kW} (h : isNm w = true) : smW w := by
  unfold isNm at h
  rw [Bool.and_eq_true, Bool.and_eq_true, decide_eq_true_eq, List.all_eq_true] at h
  exact ⟨h.1.1.2, fun c hc => by have := of_decide_eq_true (h.1.2 c hc); omega⟩
theorem pt_ok {w : kW} (h : isPt w = true) : w.length ≤ 20 ∧ ∀ c ∈ w, 0 < c ∧ c < 128 := by
  unfold isPt at h
  rw [Bool.and_eq_true, decide_eq_true_eq, List.all_eq_true] at h
  refine ⟨h.1.2, fun c hc => ?_⟩
  have := h.2 c hc
  rw [Bool.or_eq_true, decide_eq_true_eq] at this
  rcases this with q | q
  · unfold mkb dg alp at q
    rw [Bool.or_eq_true, Bool.or_eq_true, decide_eq_true_eq, decide_eq_true_eq, decide_eq_true_eq] at q
    omega
  · omega
theorem nmI_tk (w : kW) : nmI w = nmI (w.take 8) := by
  unfold nmI
  rw [pk_cg 8 (fun i hi => ?_)]
  rw [List.getD_eq_getElem?_getD, List.getD_eq_getElem?_getD, List.getElem?_take, if_pos hi]
theorem tk_sm {w : kW} (h : ∀ c ∈ w, 0 < c ∧ c < 128) (n : Nat) : smW ((w.drop n).take 8) :=
  ⟨by rw [List.length_take]; omega, fun c hc => h c (List.mem_of_mem_drop (List.mem_of_mem_take hc))⟩
theorem pt_inj {u w : kW} (hu : isPt u = true) (hw : isPt w = true) (e : ∀ j, j < 3 → ptI w j = ptI u j) : w = u := by
  have a := pt_ok hu
  have b := pt_ok hw
  have ch : ∀ j, j < 3 → (w.drop (8 * j)).take 8 = (u.drop (8 * j)).take 8 := fun j hj => by
    have := e j hj
    unfold ptI at this
    rw [nmI_tk (w.drop _), nmI_tk (u.drop _)] at this
    exact nmI_inj (tk_sm b.2 _) (tk_sm a.2 _) this
  have dec : ∀ v : kW, v.length ≤ 20 → v = (v.drop 0).take 8 ++ ((v.drop 8).take 8 ++ (v.drop 16).take 8) := fun v hv => by
    have e1 : (v.drop 16).take 8 = v.drop 16 := List.take_of_length_le (by rw [List.length_drop]; omega)
    have e2 : v.drop 16 = (v.drop 8).drop 8 := by rw [List.drop_drop]
    rw [e1, e2, List.take_append_drop, List.drop_zero, List.take_append_drop]
  rw [dec w b.1, dec u a.1, ch 0 (by omega), ch 1 (by omega), ch 2 (by omega)]
/-- a release as it can be read -/
def okL' (r : kL) : Prop := okQ r ∧ ∀ w ∈ lOw r, isPt w = true
theorem pCl_ok : ∀ f ws n b o x, (∀ e ∈ n, smW e.1) → (∀ e ∈ b, smW e.1) → (∀ w ∈ o, isPt w = true) → pCl f ws n b o = some x → (∀ e ∈ x.1, smW e.1) ∧ (∀ e ∈ x.2.1, smW e.1) ∧ ∀ w ∈ x.2.2, isPt w = true
  | f, [], n, b, o, x, h1, h2, h3, e => by
    cases f <;> (rw [pCl] at e; cases e; exact ⟨h1, h2, h3⟩)
  | 0, _ :: _, _, _, _, x, _, _, _, e => by cases e
  | f + 1, k :: ws, n, b, o, x, h1, h2, h3, e => by
    have ap : ∀ {n : kD} {w : kW} {q : kR}, (∀ e ∈ n, smW e.1) → isNm w = true → ∀ e ∈ n ++ [(w, q)], smW e.1 := fun {n w q} h hw e he => by
      rcases List.mem_append.mp he with y | y
      · exact h e y
      · rw [List.mem_singleton] at y; rw [y]; exact nm_sm hw
    rw [pCl_c] at e
    split at e
    · split at e
      · cases e
      · split at e
        · cases e
        · split at e
          · rename_i hw
            split at e
            · exact pCl_ok f _ _ _ _ x (ap h1 hw) h2 h3 e
            · cases e
          · cases e
    · split at e
      · split at e
        · cases e
        · split at e
          · cases e
          · split at e
            · rename_i hw
              split at e
              · exact pCl_ok f _ _ _ _ x h1 (ap h2 hw) h3 e
              · cases e
            · cases e
      · split at e
        · split at e
          · cases e
          · split at e
            · cases e
            · split at e
              · rename_i hw
                refine pCl_ok f _ _ _ _ x h1 h2 (fun v hv => ?_) e
                rcases List.mem_append.mp hv with y | y
                · exact h3 v y
                · rw [List.mem_singleton] at y; rw [y]; exact hw
              · cases e
        · cases e
theorem pRel_ok {no : Nat} {ws : List kW} {r : kL} (h : pRel no ws = some r) : okL' r := by
  unfold pRel at h
  split at h
  · split at h
    · rename_i hw
      split at h
      · rw [Option.map_eq_some_iff] at h
        obtain ⟨q, hq, e⟩ := h
        subst e
        obtain ⟨a, b, c⟩ := pCl_ok 13 _ [] [] [] q (fun e he => by cases he) (fun e he => by cases he) (fun e he => by cases he) hq
        exact ⟨⟨nm_sm hw, a, b⟩, c⟩
      · cases h
    · cases h
  · cases h
end MA8
