/-! MATHEMATICS, 4: the groups of a sorted index. -/
section MA5
variable {I : List kL} {D : kD} {gn : Nat → Int64}
def okQ (r : kL) : Prop := smW (lNm r) ∧ (∀ e ∈ lNe r, smW e.1) ∧ ∀ e ∈ lBr r, smW e.1
def ixO (I : List kL) : Prop := I.Pairwise (fun r s => oa r s < 0) ∧ I.length ≤ 32 ∧ ∀ r ∈ I, okQ r
theorem pw_lt {α : Type} {R : α → α → Prop} {l : List α} (h : l.Pairwise R) {p q : Nat} {r s : α} (hpq : p < q) (hr : l[p]? = some r) (hs : l[q]? = some s) : R r s := by
  obtain ⟨a, rfl⟩ := List.getElem?_eq_some_iff.mp hr
  obtain ⟨b, rfl⟩ := List.getElem?_eq_some_iff.mp hs
  exact List.pairwise_iff_getElem.mp h p q a b hpq
theorem ix_nm (O : ixO I) {p : Nat} {r : kL} (hr : I[p]? = some r) : smW (lNm r) := (O.2.2 r (List.mem_of_getElem? hr)).1
theorem ix_le (O : ixO I) {p q : Nat} {r s : kL} (hpq : p ≤ q) (hr : I[p]? = some r) (hs : I[q]? = some s) : nmI (lNm r) < nmI (lNm s) ∨ nmI (lNm r) = nmI (lNm s) := by
  by_cases e : p = q
  · subst e; rw [hr] at hs; cases hs; exact Or.inr rfl
  · have := pw_lt O.1 (show p < q by omega) hr hs
    rw [oa_lt] at this
    exact this.imp id (fun x => x.1)
theorem gn_at (N : GN I I.length gn) : ∀ p r, I[p]? = some r → gn (nbn I (p + 1) - 1) = nmI (lNm r)
  | 0, r, hr => by
    have hb : bnm I 0 := Or.inl rfl
    rw [nbn_s1 hb, Nat.add_sub_cancel]
    exact N 0 r (gt_lt hr) hr hb
  | p + 1, r, hr => by
    by_cases hb : bnm I (p + 1)
    · rw [nbn_s1 hb, Nat.add_sub_cancel]
      exact N (p + 1) r (gt_lt hr) hr hb
    · obtain ⟨s, hs⟩ := gt_ex (show p < I.length by have := gt_lt hr; omega)
      rw [nbn_s0 hb, gn_at N p s hs]
      apply Classical.byContradiction
      intro w
      refine hb (Or.inr (fun a b ha hb' => ?_))
      rw [Nat.add_sub_cancel] at ha
      rw [hs] at ha
      rw [hr] at hb'
      cases ha
      cases hb'
      exact w
theorem gp_sm (O : ixO I) {p : Nat} {r : kL} (hr : I[p]? = some r) (q : Nat) : ∀ s, p ≤ q → I[q]? = some s → nmI (lNm r) = nmI (lNm s) → nbn I (q + 1) = nbn I (p + 1) := by
  induction q with
  | zero =>
    intro s h hs e
    have : p = 0 := by omega
    rw [this]
  | succ q ih =>
    intro s h hs e
    by_cases y : p = q + 1
    · rw [y]
    · obtain ⟨u, hu⟩ := gt_ex (show q < I.length by have := gt_lt hs; omega)
      have e1 : nmI (lNm r) = nmI (lNm u) := by
        have a := ix_le O (show p ≤ q by omega) hr hu
        have b := ix_le O (Nat.le_succ q) hu hs
        revert a b e
        generalize nmI (lNm r) = x
        generalize nmI (lNm u) = y
        generalize nmI (lNm s) = z
        intro e a b
        subst e
        rcases a with a | a
        · rcases b with b | b
          · exact absurd b (fun z => i64_as a z)
          · exact b.symm
        · exact a
      have hb : ¬ bnm I (q + 1) := by
        rintro (z | z)
        · omega
        · exact z u s (by rw [Nat.add_sub_cancel]; exact hu) hs (e1.symm.trans e)
      rw [nbn_s0 hb]
      exact ih u (by omega) hu e1
theorem gp_ex : ∀ n g, g < nbn I n → ∃ p, p < n ∧ bnm I p ∧ nbn I p = g
  | 0, g, h => absurd h (Nat.not_lt_zero _)
  | n + 1, g, h => by
    by_cases hb : bnm I n
    · rw [nbn_s1 hb] at h
      by_cases e : g = nbn I n
      · exact ⟨n, Nat.lt_succ_self n, hb, e.symm⟩
      · obtain ⟨p, a, b⟩ := gp_ex n g (by omega)
        exact ⟨p, by omega, b⟩
    · rw [nbn_s0 hb] at h
      obtain ⟨p, a, b⟩ := gp_ex n g h
      exact ⟨p, by omega, b⟩
theorem gp_mem {g : Nat} (hg : g < lG I) : ∃ p r, lM I g p ∧ I[p]? = some r := by
  obtain ⟨p, a, b, c⟩ := gp_ex I.length g hg
  obtain ⟨r, hr⟩ := gt_ex a
  exact ⟨p, r, ⟨a, by rw [nbn_s1 b, c]⟩, hr⟩
theorem gp_nm (N : GN I I.length gn) {g q : Nat} {s : kL} (hm : lM I g q) (hs : I[q]? = some s) : gn g = nmI (lNm s) := by
  have := gn_at N q s hs
  rw [hm.2, Nat.add_sub_cancel] at this
  exact this
theorem mem_i (O : ixO I) (N : GN I I.length gn) {g q : Nat} {s : kL} (hg : g < lG I) (hs : I[q]? = some s) : lM I g q ↔ gn g = nmI (lNm s) := by
  refine ⟨fun hm => gp_nm N hm hs, fun e => ?_⟩
  obtain ⟨p, r, hm, hr⟩ := gp_mem hg
  have e2 := gp_nm N hm hr
  refine ⟨gt_lt hs, ?_⟩
  by_cases h : p ≤ q
  · rw [gp_sm O hr q s h hs (e2.symm.trans e)]; exact hm.2
  · rw [← gp_sm O hs p r (by omega) hr (e.symm.trans e2)]; exact hm.2
theorem mem_at {q : Nat} (hq : q < I.length) : lM I (nbn I (q + 1) - 1) q ∧ nbn I (q + 1) - 1 < lG I := by
  have h1 := nbn_p (I := I) q
  have h2 : nbn I (q + 1) ≤ nbn I I.length := nbn_mo hq
  exact ⟨⟨hq, by omega⟩, by show _ < nbn I I.length; omega⟩
theorem gn_inj (O : ixO I) (N : GN I I.length gn) {g g' : Nat} (hg : g < lG I) (hg' : g' < lG I) (e : gn g = gn g') : g = g' := by
  obtain ⟨p, r, hm, hr⟩ := gp_mem hg
  have h1 := gp_nm N hm hr
  have h2 := (mem_i O N hg' hr).mpr (e.symm.trans h1)
  have := hm.2
  have := h2.2
  omega
theorem FG_i (O : ixO I) (N : GN I I.length gn) {x : Int64} {g : Nat} : FG (lG I) gn x g ↔ g < lG I ∧ gn g = x :=
  ⟨fun h => ⟨h.1, h.2.1⟩, fun h => ⟨h.1, h.2, fun j hj e => by
    have := gn_inj O N (show j < lG I by have := h.1; omega) h.1 (e.trans h.2.symm)
    omega⟩⟩
/-- the group of a name -/
theorem FG_w (O : ixO I) (N : GN I I.length gn) {w : kW} (hw : smW w) {g q : Nat} {s : kL} (hs : I[q]? = some s) (F : FG (lG I) gn (nmI w) g) : lM I g q ↔ lNm s = w := by
  rw [mem_i O N F.1 hs, F.2.1]
  exact ⟨fun e => (nmI_inj hw (ix_nm O hs) e).symm, fun e => by rw [e]⟩
theorem FG_ex (O : ixO I) (N : GN I I.length gn) {q : Nat} {s : kL} (hs : I[q]? = some s) : ∃ g, FG (lG I) gn (nmI (lNm s)) g ∧ lM I g q := by
  obtain ⟨a, b⟩ := mem_at (gt_lt hs)
  exact ⟨_, (FG_i O N).mpr ⟨b, gp_nm N a hs⟩, a⟩
theorem no_i (O : ixO I) (N : GN I I.length gn) {T : kD} (hT : ∀ e ∈ T, smW e.1) : noG (lG I) gn T ↔ ∃ e ∈ T, ∀ r ∈ I, ¬ lNm r = e.1 := by
  constructor
  · rintro ⟨e, he, h⟩
    refine ⟨e, he, fun r hr y => ?_⟩
    obtain ⟨q, hq⟩ := gt_mem hr
    obtain ⟨g, F, _⟩ := FG_ex O N hq
    rw [y] at F
    exact h g F.1 F.2.1
  · rintro ⟨e, he, h⟩
    refine ⟨e, he, fun g hg y => ?_⟩
    obtain ⟨p, r, hm, hr⟩ := gp_mem hg
    have := gp_nm N hm hr
    rw [y] at this
    exact h r (List.mem_of_getElem? hr) (nmI_inj (hT e he) (ix_nm O hr) this).symm
theorem irS_i (O : ixO I) (N : GN I I.length gn) {w : kW} (hw : smW w) {g q : Nat} {s : kL} {R : kR} (hs : I[q]? = some s) (F : FG (lG I) gn (nmI w) g) : irS I (lM I) g R q ↔ lNm s = w ∧ rP (lVe s) R := by
  unfold irS
  constructor
  · rintro ⟨r, a, b, c⟩
    rw [hs] at a
    cases a
    exact ⟨(FG_w O N hw hs F).mp b, c⟩
  · rintro ⟨a, b⟩
    exact ⟨s, hs, (FG_w O N hw hs F).mpr a, b⟩
end MA5
