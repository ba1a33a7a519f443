/-! MATHEMATICS, 11: what reaches what. -/
section MB3
variable {S : List kL}
def Rx (S : List kL) (k i j : Nat) : Prop := i = j ∨ wR S k i j
theorem Rx_s {m i j : Nat} : Rx S (m + 1) i j ↔ Rx S m i j ∨ (Rx S m i m ∧ Rx S m m j) := by
  unfold Rx
  rw [wR]
  constructor
  · rintro (a | a | ⟨a, b⟩)
    · exact Or.inl (Or.inl a)
    · exact Or.inl (Or.inr a)
    · exact Or.inr ⟨Or.inr a, Or.inr b⟩
  · rintro ((a | a) | ⟨a | a, b | b⟩)
    · exact Or.inl a
    · exact Or.inr (Or.inl a)
    · exact Or.inl (a.trans b)
    · subst a; exact Or.inr (Or.inl b)
    · subst b; exact Or.inr (Or.inl a)
    · exact Or.inr (Or.inr ⟨a, b⟩)
theorem Rx_c {m i : Nat} : Rx S (m + 1) i m ↔ Rx S m i m := by
  rw [Rx_s]
  exact ⟨fun a => a.elim id (fun b => b.1), Or.inl⟩
theorem Rx_r {m j : Nat} : Rx S (m + 1) m j ↔ Rx S m m j := by
  rw [Rx_s]
  exact ⟨fun a => a.elim id (fun b => b.2), Or.inl⟩
theorem cir_x {m b : Nat} (hb : b < S.length) : cir (wR S S.length) S.length m b ↔ Rx S S.length m b ∧ Rx S S.length b m := by
  unfold cir Rx
  constructor
  · rintro (a | ⟨_, a, b⟩)
    · exact ⟨Or.inl a.symm, Or.inl a⟩
    · exact ⟨Or.inr a, Or.inr b⟩
  · rintro ⟨a | a, b | b⟩
    · exact Or.inl b
    · exact Or.inl a.symm
    · exact Or.inl b
    · exact Or.inr ⟨hb, a, b⟩
theorem rdy_x {pl : Nat → Prop} {i : Nat} (h8 : S.length ≤ 8) : rdy (wR S S.length) S.length pl i ↔ ¬ pl i ∧ ∀ b, b < S.length → ¬ (Rx S S.length i b ∧ ¬ Rx S S.length b i ∧ ¬ pl b) := by
  unfold rdy
  refine and_congr_right (fun hp => ⟨fun h b hb ⟨a1, a2, a3⟩ => ?_, fun h q hq ⟨⟨a1, a2⟩, a3⟩ => ?_⟩)
  · rcases a1 with a1 | a1
    · exact a2 (Or.inl a1.symm)
    · refine h b (by omega) ⟨⟨a1, a3⟩, fun c => ?_⟩
      rcases c with c | ⟨_, _, c⟩
      · exact a2 (Or.inl c)
      · exact a2 (Or.inr c)
  · have hb := (wR_lt _ a1).2
    refine h q hb ⟨Or.inr a1, fun c => ?_, a2⟩
    rcases c with c | c
    · exact a3 (Or.inl c)
    · exact a3 (Or.inr ⟨hb, a1, c⟩)
theorem nd_w (ok : ∀ r ∈ S, okQ r) {i j : Nat} {r s : kL} (hr : S[i]? = some r) (hs : S[j]? = some s) : ndR S i j ↔ ∃ e ∈ lNe r, e.1 = lNm s := by
  constructor
  · rintro ⟨r', s', h1, h2, e, he, q⟩
    rw [hr] at h1
    rw [hs] at h2
    cases h1
    cases h2
    exact ⟨e, he, nmI_inj ((ok r (List.mem_of_getElem? hr)).2.1 e he) (ok s (List.mem_of_getElem? hs)).1 q⟩
  · rintro ⟨e, he, q⟩
    exact ⟨r, s, hr, hs, e, he, by rw [q]⟩
theorem frF_fst {pl : Nat → Prop} {j n : Nat} (hj : j < n) (hr : rdy (wR S S.length) n pl j) (hm : ∀ l, l < j → ¬ rdy (wR S S.length) n pl l) : frF (wR S S.length) n pl n 0 = cir (wR S S.length) n j := by
  obtain ⟨k, _, k1, k2, k3, k4⟩ := frF_ex (R := wR S S.length) (n := n) (pl := pl) (j := j) n 0 (Nat.zero_le _) (by omega) hr
  have : k = j := by
    rcases Nat.lt_trichotomy k j with q | q | q
    · exact absurd k2 (hm k q)
    · exact q
    · exact absurd hr (k3 j (Nat.zero_le _) q)
  rw [k4, this]
theorem rdy_one {pl : Nat → Prop} {n i : Nat} (hn : n = S.length) (hi : i < n) (hp : ¬ pl i) : ∃ j, j < n ∧ rdy (wR S S.length) n pl j := by
  subst hn
  exact rdy_ex wR_T (fun _ _ w => wR_lt _ w) _ i hi hp (Nat.lt_succ_self _)
end MB3
