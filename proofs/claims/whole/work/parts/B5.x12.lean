/-! MATHEMATICS, 12: one answer only; the words of a tape are few. -/
section MC1
theorem nI_lt0 {j n : Nat} (hj : j < n) (hn : n < 2147483648) : ¬ nI j < 0 ∧ nI j < nI n := by
  rw [Int32.lt_iff_toInt_lt, Int32.lt_iff_toInt_lt, nI_toInt (by omega), nI_toInt hn]
  have h0 : (0 : Int32).toInt = 0 := by decide
  rw [h0]
  omega
theorem curP_u {g : kG} {k w : Int32} {v v2 : Option Value} (hg : g.length ≤ 8) (a : curP g k w v) (b : curP g k w v2) : v2 = v := by
  have no : ∀ (j : Nat) (e : kL × Nat), k = nI j → g[j]? = some e → ¬ (k < 0 ∨ ¬ k < nI g.length) := fun j e hk he q => by
    have := nI_lt0 (gt_lt he) (by omega)
    rw [hk] at q
    exact q.elim this.1 (fun y => y this.2)
  rcases a with ⟨a1, a2, rfl⟩ | ⟨a1, a2, rfl⟩ | ⟨j, e, a1, a2, a3⟩
  · rcases b with ⟨_, _, rfl⟩ | ⟨b1, _, _⟩ | ⟨_, _, _, _, b3⟩
    · rfl
    · exact absurd b1 (fun q => q.elim a1 a2)
    · exact absurd b3 (fun q => q.elim (fun q => a1 q.1) (fun q => a2 q.1))
  · rcases b with ⟨b1, b2, _⟩ | ⟨_, _, rfl⟩ | ⟨j, e, b1, b2, _⟩
    · exact absurd a1 (fun q => q.elim b1 b2)
    · rfl
    · exact absurd a2 (no j e b1 b2)
  · rcases b with ⟨b1, b2, _⟩ | ⟨_, b2, _⟩ | ⟨j', e', b1, b2, b3⟩
    · exact absurd a3 (fun q => q.elim (fun q => b1 q.1) (fun q => b2 q.1))
    · exact absurd b2 (no j e a1 a2)
    · have h1 := gt_lt a2
      have h2 := gt_lt b2
      rw [a1] at b1
      have := (nI_eqI (by omega) (by omega)).mp b1
      subst this
      rw [a2] at b2
      cases b2
      rcases a3 with ⟨q, rfl⟩ | ⟨q, rfl⟩
      · rcases b3 with ⟨_, rfl⟩ | ⟨q', _⟩
        · rfl
        · rw [q] at q'; exact absurd q' (by decide)
      · rcases b3 with ⟨q', _⟩ | ⟨_, rfl⟩
        · rw [q] at q'; exact absurd q' (by decide)
        · rfl
theorem stpP_u {g : kS} {k w : Int32} {v v2 : Option Value} (hg : g.length ≤ 16) (a : stpP g k w v) (b : stpP g k w v2) : v2 = v := by
  have no : ∀ (j : Nat) (e : Nat × Nat), k = nI j → g[j]? = some e → ¬ (k < 0 ∨ ¬ k < nI g.length) := fun j e hk he q => by
    have := nI_lt0 (gt_lt he) (by omega)
    rw [hk] at q
    exact q.elim this.1 (fun y => y this.2)
  rcases a with ⟨a1, a2, rfl⟩ | ⟨a1, a2, rfl⟩ | ⟨j, e, a1, a2, a3⟩
  · rcases b with ⟨_, _, rfl⟩ | ⟨b1, _, _⟩ | ⟨_, _, _, _, b3⟩
    · rfl
    · exact absurd b1 (fun q => q.elim a1 a2)
    · exact absurd b3 (fun q => q.elim (fun q => a1 q.1) (fun q => a2 q.1))
  · rcases b with ⟨b1, b2, _⟩ | ⟨_, _, rfl⟩ | ⟨j, e, b1, b2, _⟩
    · exact absurd a1 (fun q => q.elim b1 b2)
    · rfl
    · exact absurd a2 (no j e b1 b2)
  · rcases b with ⟨b1, b2, _⟩ | ⟨_, b2, _⟩ | ⟨j', e', b1, b2, b3⟩
    · exact absurd a3 (fun q => q.elim (fun q => b1 q.1) (fun q => b2 q.1))
    · exact absurd b2 (no j e a1 a2)
    · have h1 := gt_lt a2
      have h2 := gt_lt b2
      rw [a1] at b1
      have := (nI_eqI (by omega) (by omega)).mp b1
      subst this
      rw [a2] at b2
      cases b2
      rcases a3 with ⟨q, rfl⟩ | ⟨q, rfl⟩
      · rcases b3 with ⟨_, rfl⟩ | ⟨q', _⟩
        · rfl
        · rw [q] at q'; exact absurd q' (by decide)
      · rcases b3 with ⟨q', _⟩ | ⟨_, rfl⟩
        · rw [q] at q'; exact absurd q' (by decide)
        · rfl
theorem cmP_u {ws : List kW} {v v2 : Option Value} (a : cmP ws v) (b : cmP ws v2) : v2 = v := by
  rcases a with ⟨x, y, u, w, rfl, a1, a2, rfl⟩ | ⟨a1, rfl⟩
  · rcases b with ⟨x', y', u', w', e, b1, b2, rfl⟩ | ⟨b1, _⟩
    · cases e
      rw [a1] at b1
      rw [a2] at b2
      cases b1
      cases b2
      rfl
    · exact absurd ⟨x, y, rfl, by rw [a1]; rfl, by rw [a2]; rfl⟩ b1
  · rcases b with ⟨x', y', u', w', e, b1, b2, rfl⟩ | ⟨_, rfl⟩
    · exact absurd ⟨x', y', e, by rw [b1]; rfl, by rw [b2]; rfl⟩ a1
    · rfl
theorem mtP_u {ws : List kW} {v v2 : Option Value} (a : mtP ws v) (b : mtP ws v2) : v2 = v := by
  rcases a with ⟨x, us, u, R, rfl, a1, a2, rfl⟩ | ⟨a1, rfl⟩
  · rcases b with ⟨x', us', u', R', e, b1, b2, rfl⟩ | ⟨b1, _⟩
    · cases e
      rw [a1] at b1
      rw [a2] at b2
      cases b1
      cases b2
      rfl
    · exact absurd ⟨x, us, u, R, rfl, a1, a2⟩ b1
  · rcases b with ⟨x', us', u', R', e, b1, b2, rfl⟩ | ⟨_, rfl⟩
    · exact absurd ⟨x', us', u', R', e, b1, b2⟩ a1
    · rfl
theorem cntP_u {a b c e f g : Nat} {w : Int32} {v v2 : Option Value} (p : cntP a b c e f g w v) (q : cntP a b c e f g w v2) : v2 = v := by
  rcases p with ⟨p, rfl⟩ | ⟨p, rfl⟩ | ⟨p, rfl⟩ | ⟨p, rfl⟩ | ⟨p, rfl⟩ | ⟨p, rfl⟩ | ⟨p, rfl⟩ <;> rcases q with ⟨q, rfl⟩ | ⟨q, rfl⟩ | ⟨q, rfl⟩ | ⟨q, rfl⟩ | ⟨q, rfl⟩ | ⟨q, rfl⟩ | ⟨q, rfl⟩ <;> first | rfl | (exfalso; omega)
theorem feR_u {T T1 T2 : List Nat} {a b c d e : Int32} {v v2 : Option Value} (p : feR T a b c d e v T1) (q : feR T a b c d e v2 T2) : v2 = v ∧ T2 = T1 := by
  rcases p with ⟨p, rfl, rfl⟩ | ⟨p, rfl, rfl⟩ <;> rcases q with ⟨q, rfl, rfl⟩ | ⟨q, rfl, rfl⟩
  · exact ⟨rfl, rfl⟩
  · exact absurd p q
  · exact absurd q p
  · exact ⟨rfl, rfl⟩
theorem enR_u {T T1 T2 : List Nat} {n : Int32} {v v2 : Option Value} (p : enR T n v T1) (q : enR T n v2 T2) : v2 = v ∧ T2 = T1 := by
  rcases p with ⟨p, rfl, rfl⟩ | ⟨p, rfl, rfl⟩ <;> rcases q with ⟨q, rfl, rfl⟩ | ⟨q, rfl, rfl⟩
  · exact ⟨rfl, rfl⟩
  · exact absurd p q
  · exact absurd q p
  · exact ⟨rfl, rfl⟩
theorem rbR_u {K K1 K2 : List kG} {st s1 s2 : kS} {cu : Int32} {v v2 : Option Value} (p : rbR K st cu v K1 s1) (q : rbR K st cu v2 K2 s2) : v2 = v ∧ K2 = K1 ∧ s2 = s1 := by
  rcases p with ⟨p, rfl, rfl, rfl⟩ | ⟨p, p', rfl, rfl, rfl⟩ | ⟨p, p', g, t, g1, t1, rfl, rfl, rfl⟩ <;> rcases q with ⟨q, rfl, rfl, rfl⟩ | ⟨q, q', rfl, rfl, rfl⟩ | ⟨q, q', g', t', g2, t2, rfl, rfl, rfl⟩
  · exact ⟨rfl, rfl, rfl⟩
  · exact absurd q p
  · exact absurd q p
  · exact absurd p q
  · exact ⟨rfl, rfl, rfl⟩
  · exact absurd q' p'
  · exact absurd p q
  · exact absurd p' q'
  · rw [g1] at g2
    rw [t1] at t2
    cases g2
    cases t2
    exact ⟨rfl, rfl, rfl⟩
theorem wkS_in {g t : kG} {x : Nat × Nat} (h : x ∈ wkS g t) : ∃ e, (e ∈ g ∨ e ∈ t) ∧ x.1 = lNo e.1 := by
  unfold wkS wk1 wk2 at h
  rcases List.mem_append.mp h with q | q
  · obtain ⟨e, he, rfl⟩ := List.mem_map.mp q
    exact ⟨e, Or.inl (List.mem_reverse.mp (List.mem_filter.mp he).1), rfl⟩
  · obtain ⟨e, he, rfl⟩ := List.mem_map.mp q
    exact ⟨e, Or.inr (List.mem_filter.mp he).1, rfl⟩
theorem wlF_ln : ∀ (n : Nat) (T : List Nat), 2 * (wlF n T).length ≤ (T.dropWhile (fun c => decide (c = 32))).length + 1
  | 0, T => by rw [wlF]; simp
  | n + 1, T => by
    unfold wlF
    cases hd : T.dropWhile (fun c => decide (c = 32)) with
    | nil => simp
    | cons c cs =>
      dsimp only
      have hc : decide (c = 32) = false := by
        have := List.head?_dropWhile_not (fun c => decide (c = 32)) T
        rw [hd] at this
        simpa using this
      have h3 : ((c :: cs).dropWhile (fun c => !decide (c = 32))).length ≤ cs.length := by
        rw [List.dropWhile_cons, hc]
        exact dw_le cs
      have ih := wlF_ln n ((c :: cs).dropWhile (fun c => !decide (c = 32)))
      rw [List.length_cons, List.length_cons]
      generalize hr : (c :: cs).dropWhile (fun c => !decide (c = 32)) = R at *
      cases R with
      | nil => simp at ih; omega
      | cons r rs =>
        have hr32 : decide (r = 32) = true := by
          have := List.head?_dropWhile_not (fun c => !decide (c = 32)) (c :: cs)
          rw [hr] at this
          simpa using this
        rw [List.dropWhile_cons, if_pos hr32] at ih
        have h4 := dw_le (P := fun c => decide (c = 32)) rs
        rw [List.length_cons] at h3
        omega
theorem wl_ln (T : List Nat) : 2 * (wl T).length ≤ T.length + 1 := by
  have h1 := wlF_ln (T.length + 1) T
  have h2 := dw_le (P := fun c => decide (c = 32)) T
  unfold wl
  omega
end MC1
