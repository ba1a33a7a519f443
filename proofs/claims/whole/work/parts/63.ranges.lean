/-! RANGES, DEMANDS, RELEASES: what the class's methods answer of them. -/
section RD
variable {X : Nat × (Nat → Int32)} {d : Nat} {h : List va_E} {Q : Option Value → List va_E → Prop}
theorem take_all {α : Type} {p : α → Bool} {q : List α} {i : Nat} {t : α} (h : q[i]? = some t) : (q.take (i + 1)).all p = ((q.take i).all p && p t) := by
  rw [List.take_add_one, h, List.all_append]
  simp
theorem all_false {α : Type} {p : α → Bool} {q : List α} {i : Nat} (h : (q.take i).all p = false) : q.all p = false := by
  rw [← List.take_append_drop i q, List.all_append, h, Bool.false_and]
theorem rng_in {a b c : Nat} {u : kV} {tt sz n : Nat} {F : Nat → Option Nat} {S : Nat → Int32} {q : List kT} (c1 : h[a]? = some (.inr (10, [.ref tt, .ref sz, .int (nI n)]))) (c2 : h[tt]? = some (.inl (8, 16, .inr (.inr (.inr (.inr F)))))) (c3 : h[sz]? = some (.inl (2, 4, .inl S))) (U : zV h b u) (hc : c < 4) (hS : S c = nI q.length) (hq : q.length ≤ 4) (hF : ∀ (i : Nat) t, q[i]? = some t → ∃ ta, F (c * 4 + i) = some ta ∧ zT h ta t) (k : ∀ j, rt_ X (d + 2) 81 52 [some (.ref a), some (.ref b), some (.int (nI c)), some (.int (bI (q.all (tP u)))), some (.int j)] [] h Q) (i : Nat) (hi : i ≤ q.length) : rt_ X (d + 2) 81 15 [some (.ref a), some (.ref b), some (.int (nI c)), some (.int (bI ((q.take i).all (tP u)))), some (.int (nI i))] [] h Q := by
  refine rt_k (k := 2) (pc' := 18) (L' := [some (.ref a), some (.ref b), some (.int (nI c)), some (.int (bI ((q.take i).all (tP u)))), some (.int (nI i))]) (st' := [.ref a, .int (nI i)]) (h' := h) (fun _ => rfl) ?_
  refine rt_gf rfl c1 rfl rfl ?_
  refine rt_k (k := 1) (pc' := 22) (L' := [some (.ref a), some (.ref b), some (.int (nI c)), some (.int (bI ((q.take i).all (tP u)))), some (.int (nI i))]) (st' := [.int (nI c), .ref sz, .int (nI i)]) (h' := h) (fun _ => rfl) ?_
  refine rt_ialN rfl c3 rfl (by omega) (by decide) hS ?_
  refine rt_ige rfl (by omega) (by omega) (fun z => ?_) (fun z => ?_)
  ·
    have e : q.take i = q := List.take_of_length_le z
    rw [e]
    exact k (nI i)
  refine rt_k (k := 1) (pc' := 27) (L' := [some (.ref a), some (.ref b), some (.int (nI c)), some (.int (bI ((q.take i).all (tP u)))), some (.int (nI i))]) (st' := [.int (bI ((q.take i).all (tP u)))]) (h' := h) (fun _ => rfl) ?_
  refine rt_be rfl (fun zb => ?_) (fun zb => ?_)
  ·
    rw [zb, ← all_false zb]
    exact k (nI i)
  obtain ⟨t, ht⟩ := gt_ex z
  obtain ⟨ta, f1, f2⟩ := hF i t ht
  obtain ⟨la, ha, ⟨-, ct⟩, -⟩ := id f2
  refine rt_k (k := 1) (pc' := 31) (L' := [some (.ref a), some (.ref b), some (.int (nI c)), some (.int (bI ((q.take i).all (tP u)))), some (.int (nI i))]) (st' := [.ref a]) (h' := h) (fun _ => rfl) ?_
  refine rt_gf rfl c1 rfl rfl ?_
  refine rt_k (k := 2) (pc' := 36) (L' := [some (.ref a), some (.ref b), some (.int (nI c)), some (.int (bI ((q.take i).all (tP u)))), some (.int (nI i))]) (st' := [.int (nI 4), .int (nI c), .ref tt]) (h' := h) (fun _ => rfl) ?_
  refine rt_mul rfl ?_
  refine rt_k (k := 1) (pc' := 39) (L' := [some (.ref a), some (.ref b), some (.int (nI c)), some (.int (bI ((q.take i).all (tP u)))), some (.int (nI i))]) (st' := [.int (nI i), .int (nI (c * 4)), .ref tt]) (h' := h) (fun _ => rfl) ?_
  refine rt_add rfl ?_
  refine rt_aalN rfl c2 rfl (by omega) (by decide) f1 ?_
  refine rt_k (k := 1) (pc' := 42) (L' := [some (.ref a), some (.ref b), some (.int (nI c)), some (.int (bI ((q.take i).all (tP u)))), some (.int (nI i))]) (st' := [.ref b, .ref ta]) (h' := h) (fun _ => rfl) ?_
  refine rt_cvE rfl (by decide) ct rfl rfl rfl rfl (tst_holds f2 U) ?_
  refine rt_k (k := 1) (pc' := 46) (L' := [some (.ref a), some (.ref b), some (.int (nI c)), some (.int (bI (tP u t))), some (.int (nI i))]) (st' := []) (h' := h) (fun _ => rfl) ?_
  refine rt_inc (c := 1) rfl rfl ?_
  refine rt_k (k := 1) (pc' := 15) (L' := [some (.ref a), some (.ref b), some (.int (nI c)), some (.int (bI (tP u t))), some (.int (nI (i + 1)))]) (st' := []) (h' := h) (fun _ => rfl) ?_
  have e : tP u t = (q.take (i + 1)).all (tP u) := by rw [take_all ht, zb, Bool.true_and]
  rw [e]
  exact rng_in c1 c2 c3 U hc hS hq hF k (i + 1) z
termination_by q.length - i
theorem rng_out {a b : Nat} {u : kV} {R : kR} (C : zR h a R) (U : zV h b u) (c : Nat) (hc : c ≤ R.length) (H : ∀ (j : Nat) q, j < c → R[j]? = some q → q.all (tP u) = false) (x y : Option Value) : rt_ X (d + 2) 81 2 [some (.ref a), some (.ref b), some (.int (nI c)), x, y] [] h (fun r h' => r = some (.int (tB (rP u R))) ∧ h' = h) := by
  obtain ⟨tt, sz, F, S, ⟨z1, c1⟩, ⟨z2, c2⟩, ⟨z3, c3⟩, hn, HR⟩ := id C
  refine rt_k (k := 2) (pc' := 4) (L' := [some (.ref a), some (.ref b), some (.int (nI c)), x, y]) (st' := [.ref a, .int (nI c)]) (h' := h) (fun _ => rfl) ?_
  refine rt_gf rfl c1 rfl rfl ?_
  refine rt_ige rfl (by omega) (by omega) (fun z => ?_) (fun z => ?_)
  · refine rt_k (k := 1) (pc' := 65) (L' := [some (.ref a), some (.ref b), some (.int (nI c)), x, y]) (st' := [.int 0]) (h' := h) (fun _ => rfl) ?_
    refine rt_r (v := some (.int 0)) rfl rfl ⟨?_, rfl⟩
    rw [tB_f]
    rintro ⟨q, hq, hh⟩
    obtain ⟨j, hj⟩ := gt_mem hq
    have := H j q (by have := gt_lt hj; omega) hj
    rw [List.all_eq_true.mpr hh] at this
    cases this
  obtain ⟨q, hq⟩ := gt_ex z
  obtain ⟨hS, hl, hF⟩ := HR c q hq
  refine rt_k (k := 4) (pc' := 15) (L' := [some (.ref a), some (.ref b), some (.int (nI c)), some (.int (bI ((q.take 0).all (tP u)))), some (.int (nI 0))]) (st' := []) (h' := h) (fun _ => rfl) ?_
  refine rng_in c1 c2 c3 U (by omega) hS hl hF (fun j => ?_) 0 (Nat.zero_le _)
  refine rt_k (k := 1) (pc' := 53) (L' := [some (.ref a), some (.ref b), some (.int (nI c)), some (.int (bI (q.all (tP u)))), some (.int j)]) (st' := [.int (bI (q.all (tP u)))]) (h' := h) (fun _ => rfl) ?_
  refine rt_be rfl (fun zb => ?_) (fun zb => ?_)
  rotate_left
  ·
    refine rt_k (k := 1) (pc' := 57) (L' := [some (.ref a), some (.ref b), some (.int (nI c)), some (.int (bI (q.all (tP u)))), some (.int j)]) (st' := [.int (nI 1)]) (h' := h) (fun _ => rfl) ?_
    exact rt_r (v := some (.int (nI 1))) rfl rfl (⟨by rw [tB_t ⟨q, gt_in hq, List.all_eq_true.mp zb⟩]; rfl, rfl⟩)
  refine rt_inc (c := 1) rfl rfl ?_
  refine rt_k (k := 1) (pc' := 2) (L' := [some (.ref a), some (.ref b), some (.int (nI (c + 1))), some (.int (bI (q.all (tP u)))), some (.int j)]) (st' := []) (h' := h) (fun _ => rfl) ?_
  exact rng_out C U (c + 1) z (fun j q' hj hq' => by
    by_cases e : j = c
    · subst e; rw [hq] at hq'; cases hq'; exact zb
    · exact H j q' (by omega) hq') _ _
termination_by R.length - c
theorem rng_has {a b : Nat} {u : kV} {R : kR} (C : zR h a R) (U : zV h b u) : rt_ X (d + 2) 81 0 [some (.ref a), some (.ref b), none, none, none] [] h (fun r h' => r = some (.int (tB (rP u R))) ∧ h' = h) := by
  refine rt_k (k := 2) (pc' := 2) (L' := [some (.ref a), some (.ref b), some (.int (nI 0)), none, none]) (st' := []) (h' := h) (fun _ => rfl) ?_
  exact rng_out C U 0 (Nat.zero_le _) (fun j q hj => absurd hj (Nat.not_lt_zero _)) _ _
/-! demands -/
def dD (h : List va_E) (a nm rg cap : Nat) (N : Nat → Int64) (G : Nat → Option Nat) (D : kD) : Prop := h[a]? = some (.inr (4, [.ref nm, .ref rg, .int (nI D.length)])) ∧ h[nm]? = some (.inl (1, cap, .inr (.inl N))) ∧ h[rg]? = some (.inl (6, cap, .inr (.inr (.inr (.inr G))))) ∧ D.length ≤ cap ∧ cap ≤ 6 ∧ zDf h N G D
theorem zD.dd {a cap : Nat} {D : kD} (C : zD h a cap D) : ∃ nm rg N G, dD h a nm rg cap N G D := by
  obtain ⟨nm, rg, N, G, c1, c2, c3, c4, c5, c6⟩ := C
  exact ⟨nm, rg, N, G, c1.2, c2.2, c3.2, c4, c5, c6⟩
def dPl (D : kD) (x : Int64) (v : Option Value) : Prop := (∃ (p : Nat) (e : kW × kR), D[p]? = some e ∧ nmI e.1 = x ∧ (∀ (j : Nat) e', j < p → D[j]? = some e' → ¬ nmI e'.1 = x) ∧ v = some (.int (nI p))) ∨ ((∀ e ∈ D, ¬ nmI e.1 = x) ∧ v = some (.int (-1)))
theorem dmd_place1 {a nm rg cap : Nat} {N : Nat → Int64} {G : Nat → Option Nat} {D : kD} (C : dD h a nm rg cap N G D) (x : Int64) (i : Nat) (hi : i ≤ D.length) (H : ∀ (j : Nat) e, j < i → D[j]? = some e → ¬ nmI e.1 = x) : rt_ X d 9 2 [some (.ref a), some (.long x), none, some (.int (nI i))] [] h (fun v h' => h' = h ∧ dPl D x v) := by
  obtain ⟨c1, c2, c3, hn, hc, HD⟩ := id C
  refine rt_k (k := 2) (pc' := 4) (L' := [some (.ref a), some (.long x), none, some (.int (nI i))]) (st' := [.ref a, .int (nI i)]) (h' := h) (fun _ => rfl) ?_
  refine rt_gf rfl c1 rfl rfl ?_
  refine rt_ige rfl (by omega) (by omega) (fun z => ?_) (fun z => ?_)
  ·
    refine rt_k (k := 1) (pc' := 30) (L' := [some (.ref a), some (.long x), none, some (.int (nI i))]) (st' := [.int (-1)]) (h' := h) (fun _ => rfl) ?_
    exact rt_r (v := some (.int (-1))) rfl rfl (⟨rfl, Or.inr ⟨fun e he => by obtain ⟨j, hj⟩ := gt_mem he; exact H j e (by have := gt_lt hj; omega) hj, rfl⟩⟩)
  obtain ⟨e, he⟩ := gt_ex z
  obtain ⟨hN, -⟩ := HD i e he
  refine rt_k (k := 1) (pc' := 11) (L' := [some (.ref a), some (.long x), none, some (.int (nI i))]) (st' := [.ref a]) (h' := h) (fun _ => rfl) ?_
  refine rt_gf rfl c1 rfl rfl ?_
  refine rt_k (k := 1) (pc' := 15) (L' := [some (.ref a), some (.long x), none, some (.int (nI i))]) (st' := [.int (nI i), .ref nm]) (h' := h) (fun _ => rfl) ?_
  refine rt_lalN rfl c2 rfl (by omega) (by omega) hN ?_
  refine rt_k (k := 2) (pc' := 18) (L' := [some (.ref a), some (.long x), none, some (.int (nI i))]) (st' := [.int (lg_cmp (nmI e.1) x)]) (h' := h) (fun _ => rfl) ?_
  refine rt_ln rfl (fun z2 => ?_) (fun z2 => ?_)
  rotate_left
  ·
    refine rt_k (k := 1) (pc' := 22) (L' := [some (.ref a), some (.long x), none, some (.int (nI i))]) (st' := [.int (nI i)]) (h' := h) (fun _ => rfl) ?_
    exact rt_r (v := some (.int (nI i))) rfl rfl (⟨rfl, Or.inl ⟨i, e, he, z2, H, rfl⟩⟩)
  refine rt_inc (c := 1) rfl rfl ?_
  refine rt_k (k := 1) (pc' := 2) (L' := [some (.ref a), some (.long x), none, some (.int (nI (i + 1)))]) (st' := []) (h' := h) (fun _ => rfl) ?_
  exact dmd_place1 C x (i + 1) (by omega) (fun j e' hj he' => by
    by_cases q : j = i
    · subst q; rw [he] at he'; cases he'; exact z2
    · exact H j e' (by omega) he')
termination_by D.length - i
theorem dmd_place {a nm rg cap : Nat} {N : Nat → Int64} {G : Nat → Option Nat} {D : kD} (C : dD h a nm rg cap N G D) (x : Int64) : rt_ X d 9 0 [some (.ref a), some (.long x), none, none] [] h (fun v h' => h' = h ∧ dPl D x v) := by
  refine rt_k (k := 2) (pc' := 2) (L' := [some (.ref a), some (.long x), none, some (.int (nI 0))]) (st' := []) (h' := h) (fun _ => rfl) ?_
  exact dmd_place1 C x 0 (Nat.zero_le _) (fun j e hj => absurd hj (Nat.not_lt_zero _))
/-! releases -/
def lcI (x y : Int64) : Int32 := if x < y then -1 else if x = y then 0 else 1
theorem lng_cmp (x y : Int64) : rt_ X d 57 0 [some (.long x), none, some (.long y), none] [] h (fun r h' => r = some (.int (lcI x y)) ∧ h' = h) := by
  unfold lcI
  refine rt_k (k := 3) (pc' := 3) (L' := [some (.long x), none, some (.long y), none]) (st' := [.int (lg_cmp x y)]) (h' := h) (fun _ => rfl) ?_
  refine rt_lge rfl (fun z => ?_) (fun z => ?_)
  rotate_left
  ·
    rw [if_pos z]
    refine rt_k (k := 2) (pc' := 21) (L' := [some (.long x), none, some (.long y), none]) (st' := [.int (-1)]) (h' := h) (fun _ => rfl) ?_
    exact rt_r (v := some (.int (-1))) rfl rfl (⟨rfl, rfl⟩)
  rw [if_neg z]
  refine rt_k (k := 3) (pc' := 13) (L' := [some (.long x), none, some (.long y), none]) (st' := [.int (lg_cmp x y)]) (h' := h) (fun _ => rfl) ?_
  refine rt_ln rfl (fun z2 => ?_) (fun z2 => ?_)
  ·
    rw [if_neg z2]
    refine rt_k (k := 1) (pc' := 21) (L' := [some (.long x), none, some (.long y), none]) (st' := [.int (nI 1)]) (h' := h) (fun _ => rfl) ?_
    exact rt_r (v := some (.int (nI 1))) rfl rfl (⟨rfl, rfl⟩)
  rw [if_pos z2]
  refine rt_k (k := 2) (pc' := 21) (L' := [some (.long x), none, some (.long y), none]) (st' := [.int (nI 0)]) (h' := h) (fun _ => rfl) ?_
  exact rt_r (v := some (.int (nI 0))) rfl rfl (⟨rfl, rfl⟩)
def oa (r s : kL) : Int32 := if nmI (lNm r) = nmI (lNm s) then vc (lVe s) (lVe r) else lcI (nmI (lNm r)) (nmI (lNm s))
theorem rel_oa {a b : Nat} {r s : kL} (A : zL h a r) (B : zL h b s) : rt_ X (d + 1) 56 0 [some (.ref a), some (.ref b)] [] h (fun v h' => v = some (.int (oa r s)) ∧ h' = h) := by
  obtain ⟨v, nd, bk, ps, pf, ⟨-, ca⟩, va, -⟩ := A
  obtain ⟨w, nd', bk', ps', pf', ⟨-, cb⟩, wb, -⟩ := B
  obtain ⟨kw, cw⟩ := wb.c
  unfold oa
  refine rt_k (k := 1) (pc' := 1) (L' := [some (.ref a), some (.ref b)]) (st' := [.ref a]) (h' := h) (fun _ => rfl) ?_
  refine rt_gf rfl ca rfl rfl ?_
  refine rt_k (k := 1) (pc' := 5) (L' := [some (.ref a), some (.ref b)]) (st' := [.ref b, .long (nmI (lNm r))]) (h' := h) (fun _ => rfl) ?_
  refine rt_gf rfl cb rfl rfl ?_
  refine rt_k (k := 1) (pc' := 9) (L' := [some (.ref a), some (.ref b)]) (st' := [.int (lg_cmp (nmI (lNm r)) (nmI (lNm s)))]) (h' := h) (fun _ => rfl) ?_
  refine rt_le rfl (fun z => ?_) (fun z => ?_)
  ·
    rw [if_pos z]
    refine rt_k (k := 1) (pc' := 27) (L' := [some (.ref a), some (.ref b)]) (st' := [.ref b]) (h' := h) (fun _ => rfl) ?_
    refine rt_gf rfl cb rfl rfl ?_
    refine rt_k (k := 1) (pc' := 31) (L' := [some (.ref a), some (.ref b)]) (st' := [.ref a, .ref w]) (h' := h) (fun _ => rfl) ?_
    refine rt_gf rfl ca rfl rfl ?_
    refine rt_cvE rfl (by decide) cw rfl rfl rfl rfl (ver_ag wb va) ?_
    exact rt_r (v := some (.int (vc (lVe s) (lVe r)))) rfl rfl (⟨rfl, rfl⟩)
  rw [if_neg z]
  refine rt_k (k := 1) (pc' := 13) (L' := [some (.ref a), some (.ref b)]) (st' := [.ref a]) (h' := h) (fun _ => rfl) ?_
  refine rt_gf rfl ca rfl rfl ?_
  refine rt_k (k := 1) (pc' := 17) (L' := [some (.ref a), some (.ref b)]) (st' := [.ref b, .long (nmI (lNm r))]) (h' := h) (fun _ => rfl) ?_
  refine rt_gf rfl cb rfl rfl ?_
  refine rt_cE rfl rfl (lng_cmp (nmI (lNm r)) (nmI (lNm s))) ?_
  refine rt_k (k := 1) (pc' := 37) (L' := [some (.ref a), some (.ref b)]) (st' := [.int (lcI (nmI (lNm r)) (nmI (lNm s)))]) (h' := h) (fun _ => rfl) ?_
  exact rt_r (v := some (.int (lcI (nmI (lNm r)) (nmI (lNm s))))) rfl rfl (⟨rfl, rfl⟩)
end RD

