/-! THE REFERENCE, 4: versions read, marks. -/
section MD
variable {X : Nat × (Nat → Int32)} {d : Nat} {h : List va_E} {Q : Option Value → List va_E → Prop} {w : kW} {o : Nat → Int32} {ws : List kW} {tl nw pa : Int32}
theorem mkb_o (c : Nat) : mkb c = true ↔ alp c = true ∨ dg c = true ∨ c = 45 := by
  unfold mkb
  simp only [Bool.or_eq_true, decide_eq_true_eq]
  constructor
  · rintro ((q | q) | q)
    · exact Or.inr (Or.inl q)
    · exact Or.inl q
    · exact Or.inr (Or.inr q)
  · rintro (q | q | q)
    · exact Or.inl (Or.inr q)
    · exact Or.inl (Or.inl q)
    · exact Or.inr q
/-- the end of a mark -/
theorem mv_mq {wa : Nat} (S : sS h wa w) (f : Int32) (a p q : Nat) (x5 : Option Value) (hpq : p ≤ q) (hq : q ≤ w.length) (hd : ∀ i, p ≤ i → i < q → mkb (w.getD i 0) = true) (c : ∀ b, q ≤ b → b ≤ w.length → (∀ i, p ≤ i → i < b → mkb (w.getD i 0) = true) → (b = w.length ∨ mkb (w.getD b 0) = false) → rt_ X (d + 4) 135 207 [some (.ref wa), some (.int f), some (.ref a), some (.int (nI p)), some (.int (nI b)), x5] [] h Q) : rt_ X (d + 4) 135 157 [some (.ref wa), some (.int f), some (.ref a), some (.int (nI p)), some (.int (nI q)), x5] [] h Q := by
  obtain ⟨v, x, y, c1, hl, hb⟩ := S.at
  refine rt_k (k := 2) (pc' := 160) (L' := [some (.ref wa), some (.int f), some (.ref a), some (.int (nI p)), some (.int (nI q)), x5]) (st' := [.ref wa, .int (nI q)]) (h' := h) (fun _ => by first | rfl | (cases x5 <;> rfl)) ?_
  refine rt_cvE rfl (by decide) c1 rfl rfl rfl rfl (st_len S) ?_
  refine rt_ige rfl (by omega) (by omega) (fun z => ?_) (fun z => ?_)
  ·
    exact c q (Nat.le_refl _) hq hd (Or.inl (by omega))
  have b1 := getD_lt hb q
  have nxt : mkb (w.getD q 0) = true → rt_ X (d + 4) 135 201 [some (.ref wa), some (.int f), some (.ref a), some (.int (nI p)), some (.int (nI q)), x5] [] h Q := fun z1 => by
    refine rt_inc (c := 1) rfl rfl ?_
    refine rt_k (k := 1) (pc' := 157) (L' := [some (.ref wa), some (.int f), some (.ref a), some (.int (nI p)), some (.int (nI (q + 1))), x5]) (st' := []) (h' := h) (fun _ => by first | rfl | (cases x5 <;> rfl)) ?_
    exact mv_mq S f a p (q + 1) x5 (by omega) z (fun i h1 h2 => by
      by_cases e : i = q
      · subst e; exact z1
      · exact hd i h1 (by omega)) (fun b h1 => c b (by omega))
  refine rt_k (k := 2) (pc' := 169) (L' := [some (.ref wa), some (.int f), some (.ref a), some (.int (nI p)), some (.int (nI q)), x5]) (st' := [.int (nI q), .ref wa]) (h' := h) (fun _ => by first | rfl | (cases x5 <;> rfl)) ?_
  refine rt_cvE rfl (by decide) c1 rfl rfl rfl rfl (st_char S z) ?_
  refine rt_cE rfl rfl (m_letter b1) ?_
  refine rt_pn rfl (fun z1 => ?_) (fun z1 => ?_)
  ·
    exact nxt ((mkb_o _).mpr (Or.inl z1))
  refine rt_k (k := 2) (pc' := 181) (L' := [some (.ref wa), some (.int f), some (.ref a), some (.int (nI p)), some (.int (nI q)), x5]) (st' := [.int (nI q), .ref wa]) (h' := h) (fun _ => by first | rfl | (cases x5 <;> rfl)) ?_
  refine rt_cvE rfl (by decide) c1 rfl rfl rfl rfl (st_char S z) ?_
  refine rt_cE rfl rfl (m_digit b1) ?_
  refine rt_pn rfl (fun z2 => ?_) (fun z2 => ?_)
  ·
    exact nxt ((mkb_o _).mpr (Or.inr (Or.inl z2)))
  refine rt_k (k := 2) (pc' := 193) (L' := [some (.ref wa), some (.int f), some (.ref a), some (.int (nI p)), some (.int (nI q)), x5]) (st' := [.int (nI q), .ref wa]) (h' := h) (fun _ => by first | rfl | (cases x5 <;> rfl)) ?_
  refine rt_cvE rfl (by decide) c1 rfl rfl rfl rfl (st_char S z) ?_
  refine rt_k (k := 1) (pc' := 198) (L' := [some (.ref wa), some (.int f), some (.ref a), some (.int (nI p)), some (.int (nI q)), x5]) (st' := [.int (nI 45), .int (nI (w.getD q 0))]) (h' := h) (fun _ => by first | rfl | (cases x5 <;> rfl)) ?_
  refine rt_ine rfl (by omega) (by decide) (fun z3 => ?_) (fun z3 => ?_)
  rotate_left
  ·
    exact nxt ((mkb_o _).mpr (Or.inr (Or.inr z3)))
  refine c q (Nat.le_refl _) hq hd (Or.inr ?_)
  cases e : mkb (w.getD q 0) with
  | false => rfl
  | true => rcases (mkb_o _).mp e with y | y | y; exact absurd y z1; exact absurd y z2; exact absurd y z3
termination_by w.length - q
/-- what reading a version leaves -/
def mvP (h0 : List va_E) (r : Option kV) (v : Option Value) (h' : List va_E) : Prop := gr (fun _ => False) 19 450 h0 h' ∧ ((∃ u a, r = some u ∧ v = some (.ref a) ∧ h0.length ≤ a ∧ yVl h0.length h' a u) ∨ (r = none ∧ v = some .null))
theorem mv_sto {h0 : List va_E} {a na ma am : Nat} {N : Nat → Int32} {ms : List kW} {m : kW} (hz : h0.length ≤ a ∧ a < na ∧ na < ma) (h39 : 39 ≤ h0.length) (V : yM h a na ma N ms) (S : sS h am m) (hm : ms.length < 4) {wa : Nat} {f : Int32} {p q : Nat} (k : ∀ h', fr_ (fun z => z = a ∨ z = ma) h h' → yM h' a na ma N (ms ++ [m]) → rt_ X d 135 284 [some (.ref wa), some (.int f), some (.ref a), some (.int (nI p)), some (.int (nI q)), some (.ref am)] [] h' Q) : rt_ X d 135 263 [some (.ref wa), some (.int f), some (.ref a), some (.int (nI p)), some (.int (nI q)), some (.ref am)] [] h Q := by
  obtain ⟨v, x, y, c1, hl, hb⟩ := S.at
  obtain ⟨V1, V2, F, V3, V4, V5⟩ := id V
  have hzz : ∀ k, zz k → k ≠ a → True := fun _ _ _ => trivial
  refine rt_k (k := 1) (pc' := 264) (L' := [some (.ref wa), some (.int f), some (.ref a), some (.int (nI p)), some (.int (nI q)), some (.ref am)]) (st' := [.ref a]) (h' := h) (fun _ => rfl) ?_
  refine rt_gf rfl V1 rfl rfl ?_
  refine rt_k (k := 1) (pc' := 268) (L' := [some (.ref wa), some (.int f), some (.ref a), some (.int (nI p)), some (.int (nI q)), some (.ref am)]) (st' := [.ref a, .ref ma]) (h' := h) (fun _ => rfl) ?_
  refine rt_gf rfl V1 rfl rfl ?_
  refine rt_k (k := 1) (pc' := 273) (L' := [some (.ref wa), some (.int f), some (.ref a), some (.int (nI p)), some (.int (nI q)), some (.ref am)]) (st' := [.ref am, .int (nI ms.length), .ref ma]) (h' := h) (fun _ => rfl) ?_
  refine rt_aasN rfl V3 c1 ⟨rfl, rfl⟩ (by omega) (by decide) ?_
  refine rt_nm (fun h_1 e_2 => ?_)
  have f_3 : fr_ (fun z => z = a ∨ z = ma) h h_1 := by rw [e_2]; exact fr_set (e' := .inl (9, 4, .inr (.inr (.inr (.inr (va_up F ms.length (some am))))))) V3 (by rfl) (by first | decide | simp)
  have n_4 : h_1.length = h.length := by rw [e_2]; simp
  have c_5 : h_1[am]? = some (.inr (17, [.ref v, .int (nI 0), .int x, .int y])) := by rw [e_2]; exact hs_ne c1 (hc_ne V3 c1 (by intro q; cases q))
  have c_6 : h_1[a]? = some (.inr (15, [.ref na, .ref ma, .int (nI ms.length)])) := by rw [e_2]; exact hs_ne V1 (hc_ne V3 V1 (by intro q; cases q))
  have c_7 : h_1[na]? = some (.inl (2, 3, .inl N)) := by rw [e_2]; exact hs_ne V2 (hc_ne V3 V2 (by intro q; cases q))
  have c_8 : h_1[ma]? = some (.inl (9, 4, .inr (.inr (.inr (.inr (va_up F ms.length (some am))))))) := by rw [e_2]; exact hs_self V3
  refine rt_k (k := 2) (pc' := 276) (L' := [some (.ref wa), some (.int f), some (.ref a), some (.int (nI p)), some (.int (nI q)), some (.ref am)]) (st' := [.ref a, .ref a]) (h' := h_1) (fun _ => rfl) ?_
  refine rt_gf rfl c_6 rfl rfl ?_
  refine rt_k (k := 1) (pc' := 280) (L' := [some (.ref wa), some (.int f), some (.ref a), some (.int (nI p)), some (.int (nI q)), some (.ref am)]) (st' := [.int (nI 1), .int (nI ms.length), .ref a]) (h' := h_1) (fun _ => rfl) ?_
  refine rt_add rfl ?_
  refine rt_pf rfl c_6 ⟨rfl, (show 2 < 3 by decide), rfl⟩ ?_
  refine rt_nm (fun h_9 e_10 => ?_)
  have f_11 : fr_ (fun z => z = a ∨ z = ma) h h_9 := by rw [e_10]; exact fr_tr f_3 (fr_set (e' := .inr (15, [.ref na, .ref ma, .int (nI (ms.length + 1))])) c_6 (by rfl) (by first | decide | simp))
  have n_12 : h_9.length = h_1.length := by rw [e_10]; simp
  have c_13 : h_9[am]? = some (.inr (17, [.ref v, .int (nI 0), .int x, .int y])) := by rw [e_10]; exact hs_ne c_5 (hc_ne c_6 c_5 (by intro q; cases q))
  have c_14 : h_9[a]? = some (.inr (15, [.ref na, .ref ma, .int (nI (ms.length + 1))])) := by rw [e_10]; exact hs_self c_6
  have c_15 : h_9[na]? = some (.inl (2, 3, .inl N)) := by rw [e_10]; exact hs_ne c_7 (hc_ne c_6 c_7 (by intro q; cases q))
  have c_16 : h_9[ma]? = some (.inl (9, 4, .inr (.inr (.inr (.inr (va_up F ms.length (some am))))))) := by rw [e_10]; exact hs_ne c_8 (hc_ne c_6 c_8 (by intro q; cases q))
  have el : (ms ++ [m]).length = ms.length + 1 := by rw [List.length_append]; rfl
  have FF := f_11
  have ext : ∀ b u, sS h b u → sS h_9 b u := fun b u s => by
    obtain ⟨v', x', y', ⟨z1, k1⟩, ⟨f', ⟨z2, k2⟩, k3⟩, k4, k5⟩ := s
    have n1 : ¬ (b = a ∨ b = ma) := by
      rintro (q | q)
      · exact hc_ne k1 V1 (by intro q; cases q) q
      · exact hc_ne k1 V3 (by intro q; cases q) q
    have n2 : ¬ (v' = a ∨ v' = ma) := by
      rintro (q | q)
      · exact hc_ne k2 V1 (by intro q; cases q) q
      · exact hc_ne k2 V3 (by intro q; cases q) q
    exact ⟨v', x', y', ⟨z1, fr_at FF n1 k1⟩, ⟨f', ⟨z2, fr_at FF n2 k2⟩, k3⟩, k4, k5⟩
  refine k _ FF ⟨by rw [el]; exact c_14, c_15, _, c_16, by rw [el]; omega, fun i u hi => ?_⟩
  rcases gt_snoc hi with q | ⟨q, e9⟩
  · obtain ⟨b, x, y⟩ := V5 i u q
    have := gt_lt q
    exact ⟨b, by unfold va_up; rw [if_neg (by omega)]; exact x, ext _ _ y⟩
  · exact ⟨am, by unfold va_up; rw [if_pos q], by rw [e9]; exact ext _ _ S⟩
end MD

