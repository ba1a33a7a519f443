/-! STRINGS, 2: equality, pieces, new ones, beginnings. -/
section SU
variable {X : Nat × (Nat → Int32)} {d M pc r : Nat} {L : ab_Lo} {st : List Value} {h : List va_E} {Q : Option Value → List va_E → Prop}
theorem rt_basN {a t n i : Nat} {f : Nat → Int32} {x : Int32} (hi : ab_k (tb_il M) pc = some (.bastore, r)) (ha : h[a]? = some (.inl (t, n, .inl f))) (ht : tb_at[t]? = some .byte) (hx : i < n) (hn : n ≤ 1000000) (k : rt_ X d M (pc + 1) L st (h.set a (.inl (t, n, .inl (upd f i (vp_nar .byte x))))) Q) : rt_ X d M pc L (.int x :: .int (nI i) :: .ref a :: st) h Q :=
  rt_s1 hi (by simp only [ab_x, ab_n, ha]; rw [if_neg (fun q => by rw [ht] at q; cases q.1), if_pos ⟨ht, tp_ix hx hn⟩, nI_clamp (by omega)]) k
theorem rt_nwB {n : Nat} (hi : ab_k (tb_il M) pc = some (.newarray .byte, r)) (ht : tb_at[r]? = some .byte) (hn : n ≤ 1000000) (k : rt_ X d M (pc + 2) L (.ref h.length :: st) (h ++ [.inl (r, n, .inl (fun _ => 0))]) Q) : rt_ X d M pc L (.int (nI n) :: st) h Q :=
  rt_s1 hi (by simp only [ab_x, ab_n]; rw [if_neg (nw_0 hn), if_pos ht, nI_clamp (by omega)]) k
theorem rt_ins {idx a ci : Nat} {fs : List Value} (hi : ab_k (tb_il M) pc = some (.instanceof idx, r)) (ha : h[a]? = some (.inr (ci, fs))) (hc : ci = r) (h8 : ¬ r = 8888) (k : rt_ X d M (pc + 3) L (.int 1 :: st) h Q) : rt_ X d M pc L (.ref a :: st) h Q :=
  rt_s1 hi (by simp only [ab_x, ab_n, ha]; rw [if_neg h8, if_pos hc]) k
theorem rt_cst {idx a ci : Nat} {fs : List Value} (hi : ab_k (tb_il M) pc = some (.checkcast idx, r)) (ha : h[a]? = some (.inr (ci, fs))) (hc : ci = r) (h8 : ¬ r = 8888) (k : rt_ X d M (pc + 3) L (.ref a :: st) h Q) : rt_ X d M pc L (.ref a :: st) h Q :=
  rt_s1 hi (by simp only [ab_x, ab_n, ha]; rw [if_neg h8, if_pos hc]) k
theorem rt_ane {off : Int} {x y : Nat} (hi : ab_k (tb_il M) pc = some (.if_acmp .ne off, r)) (kt : ¬ x = y → rt_ X d M r L st h Q) (kf : x = y → rt_ X d M (pc + 3) L st h Q) : rt_ X d M pc L (.ref y :: .ref x :: st) h Q := by
  by_cases q : x = y
  · refine rt_s1 hi ?_ (kf q)
    subst q
    simp [ab_x, ab_n, ab_r]
  · refine rt_s1 hi ?_ (kt q)
    simp [ab_x, ab_n, ab_r, q]
set_option maxRecDepth 20000 in
theorem by8_n : ∀ c : Fin 256, vp_nar .byte (by8 c.1) = by8 c.1 := by decide
set_option maxRecDepth 20000 in
theorem by8_f : ∀ c : Fin 256, ab_f .byte (.int (by8 c.1)) = true := by decide
theorem by8_inj {c e : Nat} (hc : c < 256) (he : e < 256) (h : by8 c = by8 e) : c = e := by
  have h1 := by8_c ⟨c, hc⟩
  have h2 := by8_c ⟨e, he⟩
  dsimp only at h1 h2
  rw [h, h2] at h1
  exact ((nI_eqI (by omega) (by omega)).mp h1).symm
theorem getD_lt {w : kW} (hc : ∀ c ∈ w, c < 256) (i : Nat) : w.getD i 0 < 256 := by
  rw [List.getD_eq_getElem?_getD]
  by_cases q : i < w.length
  · rw [List.getElem?_eq_getElem q]; exact hc _ (List.getElem_mem q)
  · rw [List.getElem?_eq_none (by omega)]; decide
theorem w_ext {w u : kW} (hl : w.length = u.length) (h : ∀ i, i < w.length → w.getD i 0 = u.getD i 0) : w = u := by
  apply List.ext_getElem?
  intro i
  by_cases q : i < w.length
  · have := h i q
    rw [List.getD_eq_getElem?_getD, List.getD_eq_getElem?_getD, List.getElem?_eq_getElem q, List.getElem?_eq_getElem (show i < u.length by omega)] at this
    rw [List.getElem?_eq_getElem q, List.getElem?_eq_getElem (show i < u.length by omega)]
    exact congrArg some this
  · rw [List.getElem?_eq_none (by omega), List.getElem?_eq_none (by omega)]
theorem st_eb {v v' : Nat} {w u : kW} (A : sSb h v w) (B : sSb h v' u) (hw : w.length ≤ 400 ∧ ∀ c ∈ w, c < 256) (hu : u.length ≤ 400 ∧ ∀ c ∈ u, c < 256) (hl : w.length = u.length) (i : Nat) (hi : i ≤ w.length) (H : ∀ j, j < i → w.getD j 0 = u.getD j 0) : rt_ X d 188 9 [some (.ref v), some (.ref v'), some (.int (nI i))] [] h (fun r h' => r = some (.int (tB (w = u))) ∧ h' = h) := by
  obtain ⟨f, ⟨-, c1⟩, hf⟩ := id A
  obtain ⟨g, ⟨-, c2⟩, hg⟩ := id B
  refine rt_k (k := 2) (pc' := 11) (L' := [some (.ref v), some (.ref v'), some (.int (nI i))]) (st' := [.ref v, .int (nI i)]) (h' := h) (fun _ => rfl) ?_
  refine rt_aln rfl c1 (by decide) ?_
  refine rt_ige rfl (by omega) (by omega) (fun z => ?_) (fun z => ?_)
  ·
    refine rt_k (k := 1) (pc' := 33) (L' := [some (.ref v), some (.ref v'), some (.int (nI i))]) (st' := [.int (nI 1)]) (h' := h) (fun _ => rfl) ?_
    exact rt_r (v := some (.int (nI 1))) rfl rfl (⟨ret1 (w_ext hl (fun j hj => H j (by omega))), rfl⟩)
  refine rt_k (k := 2) (pc' := 17) (L' := [some (.ref v), some (.ref v'), some (.int (nI i))]) (st' := [.int (nI i), .ref v]) (h' := h) (fun _ => rfl) ?_
  refine rt_balN rfl c1 rfl (by omega) (by omega) (hf i z) ?_
  refine rt_k (k := 2) (pc' := 20) (L' := [some (.ref v), some (.ref v'), some (.int (nI i))]) (st' := [.int (nI i), .ref v', .int (by8 (w.getD i 0))]) (h' := h) (fun _ => rfl) ?_
  refine rt_balN rfl c2 rfl (by omega) (by omega) (hg i (by omega)) ?_
  refine rt_jeq rfl (fun z2 => ?_) (fun z2 => ?_)
  rotate_left
  ·
    refine rt_k (k := 1) (pc' := 25) (L' := [some (.ref v), some (.ref v'), some (.int (nI i))]) (st' := [.int (nI 0)]) (h' := h) (fun _ => rfl) ?_
    exact rt_r (v := some (.int (nI 0))) rfl rfl (⟨ret0 (fun q => z2 (by rw [q])), rfl⟩)
  refine rt_inc (c := 1) rfl rfl ?_
  refine rt_k (k := 1) (pc' := 9) (L' := [some (.ref v), some (.ref v'), some (.int (nI (i + 1)))]) (st' := []) (h' := h) (fun _ => rfl) ?_
  exact st_eb A B hw hu hl (i + 1) z (fun j hj => by
    by_cases q : j = i
    · subst q; exact by8_inj (getD_lt hw.2 _) (getD_lt hu.2 _) z2
    · exact H j (by omega))
termination_by w.length - i
theorem st_eq {a b : Nat} {w u : kW} (A : sS h a w) (B : sS h b u) : rt_ X (d + 1) 187 0 [some (.ref a), some (.ref b), none] [] h (fun r h' => r = some (.int (tB (w = u))) ∧ h' = h) := by
  obtain ⟨v, x, y, ⟨-, c1⟩, A1, A2, A3⟩ := id A
  obtain ⟨v', x', y', ⟨-, c2⟩, B1, B2, B3⟩ := id B
  have he : rt_ X d 188 0 [some (.ref v), some (.ref v'), none] [] h (fun r h' => r = some (.int (tB (w = u))) ∧ h' = h) := by
    obtain ⟨f, ⟨-, k1⟩, hf⟩ := id A1
    obtain ⟨g, ⟨-, k2⟩, hg⟩ := id B1
    refine rt_k (k := 1) (pc' := 1) (L' := [some (.ref v), some (.ref v'), none]) (st' := [.ref v]) (h' := h) (fun _ => rfl) ?_
    refine rt_aln rfl k1 (by decide) ?_
    refine rt_k (k := 1) (pc' := 3) (L' := [some (.ref v), some (.ref v'), none]) (st' := [.ref v', .int (nI w.length)]) (h' := h) (fun _ => rfl) ?_
    refine rt_aln rfl k2 (by decide) ?_
    refine rt_ine rfl (by omega) (by omega) (fun z => ?_) (fun z => ?_)
    ·
      refine rt_k (k := 1) (pc' := 35) (L' := [some (.ref v), some (.ref v'), none]) (st' := [.int (nI 0)]) (h' := h) (fun _ => rfl) ?_
      exact rt_r (v := some (.int (nI 0))) rfl rfl (⟨ret0 (fun q => z (by rw [q])), rfl⟩)
    refine rt_k (k := 2) (pc' := 9) (L' := [some (.ref v), some (.ref v'), some (.int (nI 0))]) (st' := []) (h' := h) (fun _ => rfl) ?_
    exact st_eb A1 B1 ⟨A2, A3⟩ ⟨B2, B3⟩ z 0 (Nat.zero_le _) (fun j hj => absurd hj (Nat.not_lt_zero _))
  refine rt_k (k := 2) (pc' := 2) (L' := [some (.ref a), some (.ref b), none]) (st' := [.ref b, .ref a]) (h' := h) (fun _ => rfl) ?_
  refine rt_ane rfl (fun z => ?_) (fun z => ?_)
  rotate_left
  ·
    have e : w = u := by
      subst z
      rw [c1] at c2
      cases c2
      obtain ⟨f, ⟨-, k1⟩, hf⟩ := id A1
      obtain ⟨g, ⟨-, k2⟩, hg⟩ := id B1
      rw [k1] at k2
      injection k2 with k2
      injection k2 with k2
      injection k2 with k3 k4
      injection k4 with k5 k6
      injection k6 with k6
      exact w_ext k5 (fun j hj => by8_inj (getD_lt A3 _) (getD_lt B3 _) (by rw [← hf j hj, ← hg j (by omega), k6]))
    refine rt_k (k := 1) (pc' := 6) (L' := [some (.ref a), some (.ref b), none]) (st' := [.int (nI 1)]) (h' := h) (fun _ => rfl) ?_
    exact rt_r (v := some (.int (nI 1))) rfl rfl (⟨ret1 e, rfl⟩)
  refine rt_k (k := 1) (pc' := 8) (L' := [some (.ref a), some (.ref b), none]) (st' := [.ref b]) (h' := h) (fun _ => rfl) ?_
  refine rt_ins rfl c2 rfl (by decide) ?_
  refine rt_k (k := 2) (pc' := 15) (L' := [some (.ref a), some (.ref b), none]) (st' := [.ref b]) (h' := h) (fun _ => rfl) ?_
  refine rt_cst rfl c2 rfl (by decide) ?_
  refine rt_k (k := 4) (pc' := 26) (L' := [some (.ref a), some (.ref b), some (.ref b)]) (st' := [.ref a]) (h' := h) (fun _ => rfl) ?_
  refine rt_gf rfl c1 rfl rfl ?_
  refine rt_k (k := 1) (pc' := 30) (L' := [some (.ref a), some (.ref b), some (.ref b)]) (st' := [.ref b, .int (nI 0)]) (h' := h) (fun _ => rfl) ?_
  refine rt_gf rfl c2 rfl rfl ?_
  refine rt_k (k := 2) (pc' := 37) (L' := [some (.ref a), some (.ref b), some (.ref b)]) (st' := [.ref a]) (h' := h) (fun _ => rfl) ?_
  refine rt_gf rfl c1 rfl rfl ?_
  refine rt_k (k := 1) (pc' := 41) (L' := [some (.ref a), some (.ref b), some (.ref b)]) (st' := [.ref b, .ref v]) (h' := h) (fun _ => rfl) ?_
  refine rt_gf rfl c2 rfl rfl ?_
  refine rt_cE rfl rfl he ?_
  refine rt_pe rfl (fun z2 => ?_) (fun z2 => ?_)
  ·
    refine rt_k (k := 1) (pc' := 55) (L' := [some (.ref a), some (.ref b), some (.ref b)]) (st' := [.int (nI 0)]) (h' := h) (fun _ => rfl) ?_
    exact rt_r (v := some (.int (nI 0))) rfl rfl (⟨ret0 z2, rfl⟩)
  refine rt_k (k := 2) (pc' := 55) (L' := [some (.ref a), some (.ref b), some (.ref b)]) (st' := [.int (nI 1)]) (h' := h) (fun _ => rfl) ?_
  exact rt_r (v := some (.int (nI 1))) rfl rfl (⟨ret1 z2, rfl⟩)
end SU

