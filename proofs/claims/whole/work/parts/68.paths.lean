/-! PATHS: whether a release owns a path, whether two own one. -/
section PA
variable {X : Nat × (Nat → Int32)} {d : Nat} {h : List va_E} {Q : Option Value → List va_E → Prop}
def oP (r : kL) (f : Nat → Int64) (o : Nat) : Prop := ∃ w ∈ lOw r, ∀ j, j < 3 → ptI w j = f (o + j)
theorem own_in {a q n o i : Nat} {v nd bk ps : Nat} {pf f : Nat → Int64} {r : kL} {w : kW} (ca : h[a]? = some (.inr (9, [.int (nI (lNo r)), .long (nmI (lNm r)), .ref v, .ref nd, .ref bk, .ref ps, .int (nI (lOw r).length)]))) (cp : h[ps]? = some (.inl (1, 12, .inr (.inl pf)))) (cq : h[q]? = some (.inl (1, n, .inr (.inl f)))) (ho : o + 3 ≤ n) (hn : n ≤ 12) (hi : i < 4) (hw : ∀ j, j < 3 → pf (i * 3 + j) = ptI w j) (k : ∀ x, rt_ X d 103 61 [some (.ref a), some (.ref q), some (.int (nI o)), some (.int (nI i)), some (.int (tB (∀ j, j < 3 → ptI w j = f (o + j)))), x] [] h Q) (j : Nat) (hj : j ≤ 3) : rt_ X d 103 16 [some (.ref a), some (.ref q), some (.int (nI o)), some (.int (nI i)), some (.int (tB (∀ l, l < j → ptI w l = f (o + l)))), some (.int (nI j))] [] h Q := by
  refine rt_k (k := 2) (pc' := 19) (L' := [some (.ref a), some (.ref q), some (.int (nI o)), some (.int (nI i)), some (.int (tB (∀ l, l < j → ptI w l = f (o + l)))), some (.int (nI j))]) (st' := [.int (nI 3), .int (nI j)]) (h' := h) (fun _ => rfl) ?_
  refine rt_ige rfl (by omega) (by decide) (fun z => ?_) (fun z => ?_)
  ·
    have e : j = 3 := by omega
    subst e
    exact k _
  refine rt_k (k := 1) (pc' := 24) (L' := [some (.ref a), some (.ref q), some (.int (nI o)), some (.int (nI i)), some (.int (tB (∀ l, l < j → ptI w l = f (o + l)))), some (.int (nI j))]) (st' := [.int (tB (∀ l, l < j → ptI w l = f (o + l)))]) (h' := h) (fun _ => rfl) ?_
  refine rt_pe rfl (fun zb => ?_) (fun zb => ?_)
  ·
    have e : tB (∀ l, l < j → ptI w l = f (o + l)) = tB (∀ j, j < 3 → ptI w j = f (o + j)) := by
      rw [tB_f zb, tB_f (fun q => zb (fun l hl => q l (by omega)))]
    rw [e]
    exact k _
  refine rt_k (k := 1) (pc' := 28) (L' := [some (.ref a), some (.ref q), some (.int (nI o)), some (.int (nI i)), some (.int (tB (∀ l, l < j → ptI w l = f (o + l)))), some (.int (nI j))]) (st' := [.ref a]) (h' := h) (fun _ => rfl) ?_
  refine rt_gf rfl ca rfl rfl ?_
  refine rt_k (k := 2) (pc' := 33) (L' := [some (.ref a), some (.ref q), some (.int (nI o)), some (.int (nI i)), some (.int (tB (∀ l, l < j → ptI w l = f (o + l)))), some (.int (nI j))]) (st' := [.int (nI 3), .int (nI i), .ref ps]) (h' := h) (fun _ => rfl) ?_
  refine rt_mul rfl ?_
  refine rt_k (k := 1) (pc' := 36) (L' := [some (.ref a), some (.ref q), some (.int (nI o)), some (.int (nI i)), some (.int (tB (∀ l, l < j → ptI w l = f (o + l)))), some (.int (nI j))]) (st' := [.int (nI j), .int (nI (i * 3)), .ref ps]) (h' := h) (fun _ => rfl) ?_
  refine rt_add rfl ?_
  refine rt_lalN rfl cp rfl (by omega) (by decide) (hw j z) ?_
  refine rt_k (k := 3) (pc' := 42) (L' := [some (.ref a), some (.ref q), some (.int (nI o)), some (.int (nI i)), some (.int (tB (∀ l, l < j → ptI w l = f (o + l)))), some (.int (nI j))]) (st' := [.int (nI j), .int (nI o), .ref q, .long (ptI w j)]) (h' := h) (fun _ => rfl) ?_
  refine rt_add rfl ?_
  refine rt_lalN rfl cq rfl (by omega) (by omega) rfl ?_
  refine rt_k (k := 1) (pc' := 45) (L' := [some (.ref a), some (.ref q), some (.int (nI o)), some (.int (nI i)), some (.int (tB (∀ l, l < j → ptI w l = f (o + l)))), some (.int (nI j))]) (st' := [.int (lg_cmp (ptI w j) (f (o + j)))]) (h' := h) (fun _ => rfl) ?_
  refine rt_ln rfl (fun z2 => ?_) (fun z2 => ?_)
  ·
    have e : (0 : Int32) = tB (∀ l, l < j + 1 → ptI w l = f (o + l)) := (tB_f (fun q => z2 (q j (Nat.lt_succ_self _)))).symm
    refine rt_k (k := 1) (pc' := 53) (L' := [some (.ref a), some (.ref q), some (.int (nI o)), some (.int (nI i)), some (.int (tB (∀ l, l < j → ptI w l = f (o + l)))), some (.int (nI j))]) (st' := [.int (nI 0)]) (h' := h) (fun _ => rfl) ?_
    refine rt_k (k := 1) (pc' := 55) (L' := [some (.ref a), some (.ref q), some (.int (nI o)), some (.int (nI i)), some (.int (tB (∀ l, l < j + 1 → ptI w l = f (o + l)))), some (.int (nI j))]) (st' := []) (h' := h) (fun _ => by rw [← e]; rfl) ?_
    refine rt_inc (c := 1) rfl rfl ?_
    refine rt_k (k := 1) (pc' := 16) (L' := [some (.ref a), some (.ref q), some (.int (nI o)), some (.int (nI i)), some (.int (tB (∀ l, l < j + 1 → ptI w l = f (o + l)))), some (.int (nI (j + 1)))]) (st' := []) (h' := h) (fun _ => rfl) ?_
    exact own_in ca cp cq ho hn hi hw k (j + 1) z
  have e : (1 : Int32) = tB (∀ l, l < j + 1 → ptI w l = f (o + l)) := (tB_t (fun l hl => by by_cases q : l = j; · subst q; exact z2
                                                                                            · exact zb l (by omega))).symm
  refine rt_k (k := 2) (pc' := 53) (L' := [some (.ref a), some (.ref q), some (.int (nI o)), some (.int (nI i)), some (.int (tB (∀ l, l < j → ptI w l = f (o + l)))), some (.int (nI j))]) (st' := [.int (nI 1)]) (h' := h) (fun _ => rfl) ?_
  refine rt_k (k := 1) (pc' := 55) (L' := [some (.ref a), some (.ref q), some (.int (nI o)), some (.int (nI i)), some (.int (tB (∀ l, l < j + 1 → ptI w l = f (o + l)))), some (.int (nI j))]) (st' := []) (h' := h) (fun _ => by rw [← e]; rfl) ?_
  refine rt_inc (c := 1) rfl rfl ?_
  refine rt_k (k := 1) (pc' := 16) (L' := [some (.ref a), some (.ref q), some (.int (nI o)), some (.int (nI i)), some (.int (tB (∀ l, l < j + 1 → ptI w l = f (o + l)))), some (.int (nI (j + 1)))]) (st' := []) (h' := h) (fun _ => rfl) ?_
  exact own_in ca cp cq ho hn hi hw k (j + 1) z
termination_by 3 - j
theorem own_out {a q n o : Nat} {f : Nat → Int64} {r : kL} (C : zL h a r) (cq : h[q]? = some (.inl (1, n, .inr (.inl f)))) (ho : o + 3 ≤ n) (hn : n ≤ 12) (i : Nat) (hi : i ≤ (lOw r).length) (H : ∀ (l : Nat) w, l < i → (lOw r)[l]? = some w → ¬ ∀ j, j < 3 → ptI w j = f (o + j)) (x y : Option Value) : rt_ X d 103 2 [some (.ref a), some (.ref q), some (.int (nI o)), some (.int (nI i)), x, y] [] h (fun v h' => v = some (.int (tB (oP r f o))) ∧ h' = h) := by
  obtain ⟨v, nd, bk, ps, pf, ⟨-, ca⟩, -, -, -, ⟨-, cp⟩, hl, HP⟩ := id C
  refine rt_k (k := 2) (pc' := 4) (L' := [some (.ref a), some (.ref q), some (.int (nI o)), some (.int (nI i)), x, y]) (st' := [.ref a, .int (nI i)]) (h' := h) (fun _ => rfl) ?_
  refine rt_gf rfl ca rfl rfl ?_
  refine rt_ige rfl (by omega) (by omega) (fun z => ?_) (fun z => ?_)
  · refine rt_k (k := 1) (pc' := 75) (L' := [some (.ref a), some (.ref q), some (.int (nI o)), some (.int (nI i)), x, y]) (st' := [.int (nI 0)]) (h' := h) (fun _ => rfl) ?_
    refine rt_r (v := some (.int (nI 0))) rfl rfl ⟨ret0 ?_, rfl⟩
    rintro ⟨w, hw, hh⟩
    obtain ⟨j, hj⟩ := gt_mem hw
    exact H j w (by have := gt_lt hj; omega) hj hh
  obtain ⟨w, hw⟩ := gt_ex z
  have e : (1 : Int32) = tB (∀ l, l < 0 → ptI w l = f (o + l)) := (tB_t (fun l hl => absurd hl (Nat.not_lt_zero _))).symm
  refine rt_k (k := 4) (pc' := 16) (L' := [some (.ref a), some (.ref q), some (.int (nI o)), some (.int (nI i)), some (.int (tB (∀ l, l < 0 → ptI w l = f (o + l)))), some (.int (nI 0))]) (st' := []) (h' := h) (fun _ => by rw [← e]; rfl) ?_
  refine own_in ca cp cq ho hn (by omega) (HP i w hw) (fun x => ?_) 0 (Nat.zero_le _)
  refine rt_k (k := 1) (pc' := 63) (L' := [some (.ref a), some (.ref q), some (.int (nI o)), some (.int (nI i)), some (.int (tB (∀ j, j < 3 → ptI w j = f (o + j)))), x]) (st' := [.int (tB (∀ j, j < 3 → ptI w j = f (o + j)))]) (h' := h) (fun _ => rfl) ?_
  refine rt_pe rfl (fun zb => ?_) (fun zb => ?_)
  · refine rt_inc (c := 1) rfl rfl ?_
    refine rt_n rfl ?_
    exact own_out C cq ho hn (i + 1) z (fun l w' hl' hw' => by
      by_cases e : l = i
      · subst e; rw [hw] at hw'; cases hw'; exact zb
      · exact H l w' (by omega) hw') _ _
  · refine rt_n rfl ?_
    exact rt_r (v := some (.int (nI 1))) rfl rfl ⟨ret1 ⟨w, gt_in hw, zb⟩, rfl⟩
termination_by (lOw r).length - i
theorem rel_owns {a q n o : Nat} {f : Nat → Int64} {r : kL} (C : zL h a r) (cq : h[q]? = some (.inl (1, n, .inr (.inl f)))) (ho : o + 3 ≤ n) (hn : n ≤ 12) : rt_ X d 103 0 [some (.ref a), some (.ref q), some (.int (nI o)), none, none, none] [] h (fun v h' => v = some (.int (tB (oP r f o))) ∧ h' = h) := by
  refine rt_k (k := 2) (pc' := 2) (L' := [some (.ref a), some (.ref q), some (.int (nI o)), some (.int (nI 0)), none, none]) (st' := []) (h' := h) (fun _ => rfl) ?_
  exact own_out C cq ho hn 0 (Nat.zero_le _) (fun l w hl => absurd hl (Nat.not_lt_zero _)) _ _
/-- two releases own one path -/
def shP (r s : kL) : Prop := ∃ u ∈ lOw r, ∃ w ∈ lOw s, ∀ j, j < 3 → ptI w j = ptI u j
theorem rel_shares1 {a b : Nat} {r s : kL} (A : zL h a r) (B : zL h b s) (i : Nat) (hi : i ≤ (lOw r).length) (H : ∀ (l : Nat) u, l < i → (lOw r)[l]? = some u → ¬ ∃ w ∈ lOw s, ∀ j, j < 3 → ptI w j = ptI u j) : rt_ X (d + 1) 102 2 [some (.ref a), some (.ref b), some (.int (nI i))] [] h (fun v h' => v = some (.int (tB (shP r s))) ∧ h' = h) := by
  obtain ⟨v, nd, bk, ps, pf, ⟨-, ca⟩, -, -, -, ⟨-, cp⟩, hl, HP⟩ := id A
  obtain ⟨v', nd', bk', ps', pf', ⟨-, cb⟩, -, -, -, ⟨-, cp'⟩, hl', HP'⟩ := id B
  refine rt_k (k := 2) (pc' := 4) (L' := [some (.ref a), some (.ref b), some (.int (nI i))]) (st' := [.ref a, .int (nI i)]) (h' := h) (fun _ => rfl) ?_
  refine rt_gf rfl ca rfl rfl ?_
  refine rt_ige rfl (by omega) (by omega) (fun z => ?_) (fun z => ?_)
  ·
    refine rt_k (k := 1) (pc' := 33) (L' := [some (.ref a), some (.ref b), some (.int (nI i))]) (st' := [.int (nI 0)]) (h' := h) (fun _ => rfl) ?_
    exact rt_r (v := some (.int (nI 0))) rfl rfl (⟨ret0 (by rintro ⟨u, hu, hh⟩; obtain ⟨j, hj⟩ := gt_mem hu; exact H j u (by have := gt_lt hj; omega) hj hh), rfl⟩)
  obtain ⟨u, hu⟩ := gt_ex z
  refine rt_k (k := 2) (pc' := 12) (L' := [some (.ref a), some (.ref b), some (.int (nI i))]) (st' := [.ref a, .ref b]) (h' := h) (fun _ => rfl) ?_
  refine rt_gf rfl ca rfl rfl ?_
  refine rt_k (k := 2) (pc' := 17) (L' := [some (.ref a), some (.ref b), some (.int (nI i))]) (st' := [.int (nI 3), .int (nI i), .ref ps, .ref b]) (h' := h) (fun _ => rfl) ?_
  refine rt_mul rfl ?_
  refine rt_cvE rfl (by decide) cb rfl rfl rfl rfl (rel_owns B cp (o := i * 3) (by omega) (by decide)) ?_
  refine rt_pe rfl (fun zb => ?_) (fun zb => ?_)
  rotate_left
  ·
    refine rt_k (k := 1) (pc' := 25) (L' := [some (.ref a), some (.ref b), some (.int (nI i))]) (st' := [.int (nI 1)]) (h' := h) (fun _ => rfl) ?_
    exact rt_r (v := some (.int (nI 1))) rfl rfl (⟨ret1 ⟨u, gt_in hu, by obtain ⟨w, hw, hh⟩ := zb; exact ⟨w, hw, fun j hj => (hh j hj).trans (HP i u hu j hj)⟩⟩, rfl⟩)
  refine rt_inc (c := 1) rfl rfl ?_
  refine rt_k (k := 1) (pc' := 2) (L' := [some (.ref a), some (.ref b), some (.int (nI (i + 1)))]) (st' := []) (h' := h) (fun _ => rfl) ?_
  exact rel_shares1 A B (i + 1) z (fun l u' hl hu' => by
    by_cases e : l = i
    · subst e; rw [hu] at hu'; cases hu'
      rintro ⟨w, hw, hh⟩
      exact zb ⟨w, hw, fun j hj => (hh j hj).trans (HP _ u hu j hj).symm⟩
    · exact H l u' (by omega) hu')
termination_by (lOw r).length - i
theorem rel_shares {a b : Nat} {r s : kL} (A : zL h a r) (B : zL h b s) : rt_ X (d + 1) 102 0 [some (.ref a), some (.ref b), none] [] h (fun v h' => v = some (.int (tB (shP r s))) ∧ h' = h) := by
  refine rt_k (k := 2) (pc' := 2) (L' := [some (.ref a), some (.ref b), some (.int (nI 0))]) (st' := []) (h' := h) (fun _ => rfl) ?_
  exact rel_shares1 A B 0 (Nat.zero_le _) (fun l u hl => absurd hl (Nat.not_lt_zero _))
end PA

