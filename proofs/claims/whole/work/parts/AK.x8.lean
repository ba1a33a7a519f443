/-! MATHEMATICS, 8: an arranged set holds each of its releases once. -/
section MA9
variable {S : List kL}
theorem crd_full {p : Nat → Prop} {n : Nat} (h : n ≤ crd p n) {i : Nat} (hi : i < n) : p i := by
  apply Classical.byContradiction
  intro w
  have := crd_lt (p := p) (q := fun _ => True) (i := i) n (fun _ _ _ => trivial) hi trivial w
  have := crd_le (fun _ => True) n
  omega
theorem selL_in {m : Nat → Prop} {c : Nat} : ∀ n e, e ∈ selL S m c n ↔ ∃ q, q < n ∧ m q ∧ S[q]? = some e.1 ∧ e.2 = c
  | 0, e => ⟨fun h => (by cases h), fun ⟨q, h, _⟩ => (by omega)⟩
  | n + 1, e => by
    by_cases h : m n
    · cases hs : S[n]? with
      | none =>
        have : selL S m c (n + 1) = selL S m c n := by rw [selL, if_pos h, hs, List.append_nil]
        rw [this, selL_in n e]
        refine ⟨fun ⟨q, a, b⟩ => ⟨q, by omega, b⟩, fun ⟨q, a, b, x⟩ => ⟨q, ?_, b, x⟩⟩
        by_cases y : q = n
        · subst y; rw [hs] at x; cases x.1
        · omega
      | some s =>
        rw [selL_t hs h, List.mem_append, selL_in n e]
        constructor
        · rintro (⟨q, a, b⟩ | y)
          · exact ⟨q, by omega, b⟩
          · rw [List.mem_singleton] at y
            subst y
            exact ⟨n, Nat.lt_succ_self n, h, hs, rfl⟩
        · rintro ⟨q, a, b, x, y⟩
          by_cases z : q = n
          · subst z
            rw [hs] at x
            refine Or.inr (List.mem_singleton.mpr ?_)
            cases x
            rw [← y]
          · exact Or.inl ⟨q, by omega, b, x, y⟩
    · rw [selL_f h, selL_in n e]
      refine ⟨fun ⟨q, a, b⟩ => ⟨q, by omega, b⟩, fun ⟨q, a, b, x⟩ => ⟨q, ?_, b, x⟩⟩
      by_cases y : q = n
      · subst y; exact absurd b h
      · omega
theorem selL_nd (hS : S.Nodup) {m : Nat → Prop} {c : Nat} : ∀ n, ((selL S m c n).map Prod.fst).Nodup
  | 0 => List.Pairwise.nil
  | n + 1 => by
    by_cases h : m n
    · cases hs : S[n]? with
      | none => rw [selL, if_pos h, hs, List.append_nil]; exact selL_nd hS n
      | some s =>
        rw [selL_t hs h, List.map_append]
        refine List.nodup_append.mpr ⟨selL_nd hS n, List.pairwise_singleton _ _, fun a ha b hb => ?_⟩
        obtain ⟨e, he, rfl⟩ := List.mem_map.mp ha
        obtain ⟨q, h1, _, h2, _⟩ := (selL_in n e).mp he
        have hb' : b = s := List.mem_singleton.mp hb
        subst hb'
        exact pw_lt hS h1 h2 hs
    · rw [selL_f h]; exact selL_nd hS n
theorem arL_pl (hS : S.Nodup) {R : Nat → Nat → Prop} (HT : ∀ i j k, k < S.length → R i k → R k j → R i j) : ∀ (f c : Nat) (pl : Nat → Prop) (acc : kG), plC R S.length pl → acc.length = crd pl S.length → (acc.map Prod.fst).Nodup → (∀ r, r ∈ acc.map Prod.fst ↔ ∃ q, q < S.length ∧ pl q ∧ S[q]? = some r) → ∃ pl', (arL R S f c pl acc).length = crd pl' S.length ∧ ((arL R S f c pl acc).map Prod.fst).Nodup ∧ ∀ r, r ∈ (arL R S f c pl acc).map Prod.fst ↔ ∃ q, q < S.length ∧ pl' q ∧ S[q]? = some r
  | 0, _, pl, acc, _, h, h1, h2 => ⟨pl, h, h1, h2⟩
  | f + 1, c, pl, acc, hp, h, h1, h2 => by
    by_cases z : acc.length < S.length
    · rw [arL, if_pos z]
      obtain ⟨dj, hp'⟩ := plC_s HT hp
      refine arL_pl hS HT f (c + 1) _ _ hp' ?_ ?_ ?_
      · rw [List.length_append, selL_len _ (Nat.le_refl _), h, ← crd_or S.length dj]
      · rw [List.map_append]
        refine List.nodup_append.mpr ⟨h1, selL_nd hS _, fun a ha b hb e => ?_⟩
        subst e
        obtain ⟨q, q1, q2, q3⟩ := (h2 a).mp ha
        obtain ⟨x, hx, rfl⟩ := List.mem_map.mp hb
        obtain ⟨p, p1, p2, p3, _⟩ := (selL_in _ x).mp hx
        have : p = q := by
          apply Classical.byContradiction
          intro w
          rcases Nat.lt_or_gt_of_ne w with y | y
          · exact pw_lt hS y p3 q3 rfl
          · exact pw_lt hS y q3 p3 rfl
        subst this
        exact dj p q1 ⟨q2, p2⟩
      · intro r
        rw [List.map_append, List.mem_append, h2 r]
        constructor
        · rintro (⟨q, a, b, x⟩ | y)
          · exact ⟨q, a, Or.inl b, x⟩
          · obtain ⟨x, hx, rfl⟩ := List.mem_map.mp y
            obtain ⟨p, p1, p2, p3, _⟩ := (selL_in _ x).mp hx
            exact ⟨p, p1, Or.inr p2, p3⟩
        · rintro ⟨q, a, b | b, x⟩
          · exact Or.inl ⟨q, a, b, x⟩
          · exact Or.inr (List.mem_map.mpr ⟨(r, c), (selL_in _ _).mpr ⟨q, a, b, x, rfl⟩, rfl⟩)
    · rw [arL, if_neg z]; exact ⟨pl, h, h1, h2⟩
theorem arr_nd (hS : S.Nodup) : ((arr S).map Prod.fst).Nodup ∧ ∀ r, r ∈ (arr S).map Prod.fst ↔ r ∈ S := by
  have h0 : crd (fun _ => False) S.length = 0 := by
    generalize S.length = n
    induction n with
    | zero => rfl
    | succ n ih => rw [crd_f id, ih]
  have p0 : plC (wR S S.length) S.length (fun _ => False) := fun _ _ _ _ w => absurd w id
  obtain ⟨pl, a, b, c⟩ := arL_pl hS wR_T S.length 0 _ [] p0 h0.symm List.Pairwise.nil (fun r => ⟨fun h => (by cases h), fun ⟨_, _, h, _⟩ => absurd h id⟩)
  have e := arr_len S
  unfold arr at e
  rw [e] at a
  refine ⟨b, fun r => ?_⟩
  unfold arr
  rw [c r]
  constructor
  · rintro ⟨q, _, _, h⟩
    exact List.mem_of_getElem? h
  · intro h
    obtain ⟨q, hq⟩ := gt_mem h
    exact ⟨q, gt_lt hq, crd_full (Nat.le_of_eq a) (gt_lt hq), hq⟩
theorem nmP_nd (h : S.Pairwise (fun r s => nmI (lNm r) < nmI (lNm s))) : S.Nodup := by
  unfold List.Nodup
  refine h.imp (fun {a b} x => ?_)
  intro e
  subst e
  exact i64_irr _ x
end MA9
