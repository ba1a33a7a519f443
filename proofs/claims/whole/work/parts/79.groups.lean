/-! THE SOLVER, 7: groups. -/
section SO7
variable {X : Nat × (Nat → Int32)} {d : Nat} {h : List va_E} {Q : Option Value → List va_E → Prop} {I : List kL} {nx : Nat} {rg : Nat → Prop} {li le so : Prop} {fo : Nat → Prop}
def lmem (I : List kL) (i g q : Nat) : Prop := q < i ∧ nbn I (q + 1) = g + 1
/-- names of groups: each group's first release has it -/
def GN (I : List kL) (j : Nat) (N : Nat → Int64) : Prop := ∀ (p : Nat) r, p < j → I[p]? = some r → bnm I p → N (nbn I p) = nmI (lNm r)
def LG (h : List va_E) (I : List kL) (i j Gc : Nat) (rg : Nat → Prop) (li le so : Prop) (fo : Nat → Prop) : Prop := ∃ (M : Nat → Int32) (N : Nat → Int64) (R E : Nat → Int32), h[9]? = some (.inr (5, [.ref 4, .ref 6, .ref 10, .ref 11, .int (nI Gc), .ref 12, .ref 13, .int (msk rg), .int (msk (fun q => q < i)), .int (tB li), .int (tB le), .int (tB so), .int (msk fo)])) ∧ h[10]? = some (.inl (2, 8, .inl M)) ∧ h[11]? = some (.inl (1, 8, .inr (.inl N))) ∧ h[12]? = some (.inl (2, 32, .inl R)) ∧ h[13]? = some (.inl (2, 32, .inl E)) ∧ (∀ g, g < Gc → M g = msk (lmem I i g)) ∧ GN I j N ∧ ∀ p, p < i → R p = msk (fun _ => False) ∧ E p = msk (fun _ => False)
theorem nbn_s1 {n : Nat} (h : bnm I n) : nbn I (n + 1) = nbn I n + 1 := by rw [nbn, if_pos h]
theorem nbn_s0 {n : Nat} (h : ¬ bnm I n) : nbn I (n + 1) = nbn I n := by rw [nbn, if_neg h, Nat.add_zero]
theorem nbn_mo : ∀ {a b : Nat}, a ≤ b → nbn I a ≤ nbn I b := by
  intro a b h
  induction h with
  | refl => exact Nat.le_refl _
  | step _ ih =>
    rename_i m _
    by_cases q : bnm I m
    · rw [nbn_s1 q]; omega
    · rw [nbn_s0 q]; exact ih
theorem nbn_p (n : Nat) : 1 ≤ nbn I (n + 1) := by
  have h1 : nbn I 1 = 1 := by rw [nbn_s1 (Or.inl rfl)]; rfl
  have := nbn_mo (I := I) (show 1 ≤ n + 1 by omega)
  omega
theorem so_lg2 (CI : cI h I nx) {i : Nat} (hi : i < I.length) (h8 : nbn I I.length ≤ 8) (C : LG h I i (i + 1) (nbn I (i + 1)) rg li le so fo) (k : ∀ h', fr_ sB h h' → LG h' I (i + 1) (i + 1) (nbn I (i + 1)) rg li le so fo → rt_ X d 74 12 [some (.ref 9), some (.int (nI (i + 1)))] [] h' Q) : rt_ X d 74 83 [some (.ref 9), some (.int (nI i))] [] h Q := by
  obtain ⟨M, N, R, E, c9, c10, c11, c12, c13, HM, HN, HR⟩ := id C
  obtain ⟨F, d4, d5, hn, -, HI⟩ := id CI
  have g1 := nbn_p (I := I) i
  have g8 := nbn_mo (I := I) (show i + 1 ≤ I.length by omega)
  refine rt_k (k := 1) (pc' := 84) (L' := [some (.ref 9), some (.int (nI i))]) (st' := [.ref 9]) (h' := h) (fun _ => rfl) ?_
  refine rt_gf rfl c9 rfl rfl ?_
  refine rt_k (k := 1) (pc' := 88) (L' := [some (.ref 9), some (.int (nI i))]) (st' := [.ref 9, .ref 10]) (h' := h) (fun _ => rfl) ?_
  refine rt_gf rfl c9 rfl rfl ?_
  refine rt_k (k := 1) (pc' := 92) (L' := [some (.ref 9), some (.int (nI i))]) (st' := [.int (nI 1), .int (nI (nbn I (i + 1))), .ref 10]) (h' := h) (fun _ => rfl) ?_
  refine rt_sub rfl (by omega) ?_
  refine rt_k (k := 1) (pc' := 94) (L' := [some (.ref 9), some (.int (nI i))]) (st' := [.int (nI ((nbn I (i + 1)) - 1)), .ref 10, .int (nI ((nbn I (i + 1)) - 1)), .ref 10]) (h' := h) (fun _ => rfl) ?_
  refine rt_ialN rfl c10 rfl (by omega) (by decide) (HM _ (by omega)) ?_
  refine rt_k (k := 2) (pc' := 97) (L' := [some (.ref 9), some (.int (nI i))]) (st' := [.int (nI i), .int (nI 1), .int (msk (lmem I i (nbn I (i + 1) - 1))), .int (nI ((nbn I (i + 1)) - 1)), .ref 10]) (h' := h) (fun _ => rfl) ?_
  refine rt_mbit rfl (by omega) ?_
  refine rt_mor rfl ?_
  refine rt_iasN rfl c10 rfl (by omega) (by decide) ?_
  have f_1 : fr_ (sB) h (h.set 10 (.inl (2, 8, .inl (upd M ((nbn I (i + 1)) - 1) (msk (fun ι => (lmem I i (nbn I (i + 1) - 1)) ι ∨ (ι = i))))))) := fr_set (e' := .inl (2, 8, .inl (upd M ((nbn I (i + 1)) - 1) (msk (fun ι => (lmem I i (nbn I (i + 1) - 1)) ι ∨ (ι = i)))))) c10 (by rfl) (by first | decide | simp)
  have c_2 := hs_ne (a := 10) (e' := .inl (2, 8, .inl (upd M ((nbn I (i + 1)) - 1) (msk (fun ι => (lmem I i (nbn I (i + 1) - 1)) ι ∨ (ι = i)))))) c9 (by decide)
  have c_3 := hs_ne (a := 10) (e' := .inl (2, 8, .inl (upd M ((nbn I (i + 1)) - 1) (msk (fun ι => (lmem I i (nbn I (i + 1) - 1)) ι ∨ (ι = i)))))) c11 (by decide)
  have c_4 := hs_ne (a := 10) (e' := .inl (2, 8, .inl (upd M ((nbn I (i + 1)) - 1) (msk (fun ι => (lmem I i (nbn I (i + 1) - 1)) ι ∨ (ι = i)))))) c12 (by decide)
  have c_5 := hs_ne (a := 10) (e' := .inl (2, 8, .inl (upd M ((nbn I (i + 1)) - 1) (msk (fun ι => (lmem I i (nbn I (i + 1) - 1)) ι ∨ (ι = i)))))) c13 (by decide)
  have c_6 := hs_self (e' := .inl (2, 8, .inl (upd M ((nbn I (i + 1)) - 1) (msk (fun ι => (lmem I i (nbn I (i + 1) - 1)) ι ∨ (ι = i)))))) c10
  refine rt_k (k := 2) (pc' := 102) (L' := [some (.ref 9), some (.int (nI i))]) (st' := [.ref 9, .ref 9]) (h' := (h.set 10 (.inl (2, 8, .inl (upd M ((nbn I (i + 1)) - 1) (msk (fun ι => (lmem I i (nbn I (i + 1) - 1)) ι ∨ (ι = i)))))))) (fun _ => rfl) ?_
  refine rt_gf rfl c_2 rfl rfl ?_
  refine rt_k (k := 2) (pc' := 107) (L' := [some (.ref 9), some (.int (nI i))]) (st' := [.int (nI i), .int (nI 1), .int (msk (fun q => q < i)), .ref 9]) (h' := (h.set 10 (.inl (2, 8, .inl (upd M ((nbn I (i + 1)) - 1) (msk (fun ι => (lmem I i (nbn I (i + 1) - 1)) ι ∨ (ι = i)))))))) (fun _ => rfl) ?_
  refine rt_mbit rfl (by omega) ?_
  refine rt_mor rfl ?_
  refine rt_pf rfl c_2 ⟨rfl, (show 8 < 13 by decide), rfl⟩ ?_
  have f_7 : fr_ (sB) h ((h.set 10 (.inl (2, 8, .inl (upd M ((nbn I (i + 1)) - 1) (msk (fun ι => (lmem I i (nbn I (i + 1) - 1)) ι ∨ (ι = i))))))).set 9 (.inr (5, [.ref 4, .ref 6, .ref 10, .ref 11, .int (nI (nbn I (i + 1))), .ref 12, .ref 13, .int (msk rg), .int (msk (fun ι => (fun q => q < i) ι ∨ (ι = i))), .int (tB li), .int (tB le), .int (tB so), .int (msk fo)]))) := fr_tr f_1 (fr_set (e' := .inr (5, [.ref 4, .ref 6, .ref 10, .ref 11, .int (nI (nbn I (i + 1))), .ref 12, .ref 13, .int (msk rg), .int (msk (fun ι => (fun q => q < i) ι ∨ (ι = i))), .int (tB li), .int (tB le), .int (tB so), .int (msk fo)])) c_2 (by rfl) (by first | decide | simp))
  have c_8 := hs_ne (a := 9) (e' := .inr (5, [.ref 4, .ref 6, .ref 10, .ref 11, .int (nI (nbn I (i + 1))), .ref 12, .ref 13, .int (msk rg), .int (msk (fun ι => (fun q => q < i) ι ∨ (ι = i))), .int (tB li), .int (tB le), .int (tB so), .int (msk fo)])) c_6 (by decide)
  have c_9 := hs_ne (a := 9) (e' := .inr (5, [.ref 4, .ref 6, .ref 10, .ref 11, .int (nI (nbn I (i + 1))), .ref 12, .ref 13, .int (msk rg), .int (msk (fun ι => (fun q => q < i) ι ∨ (ι = i))), .int (tB li), .int (tB le), .int (tB so), .int (msk fo)])) c_3 (by decide)
  have c_10 := hs_ne (a := 9) (e' := .inr (5, [.ref 4, .ref 6, .ref 10, .ref 11, .int (nI (nbn I (i + 1))), .ref 12, .ref 13, .int (msk rg), .int (msk (fun ι => (fun q => q < i) ι ∨ (ι = i))), .int (tB li), .int (tB le), .int (tB so), .int (msk fo)])) c_4 (by decide)
  have c_11 := hs_ne (a := 9) (e' := .inr (5, [.ref 4, .ref 6, .ref 10, .ref 11, .int (nI (nbn I (i + 1))), .ref 12, .ref 13, .int (msk rg), .int (msk (fun ι => (fun q => q < i) ι ∨ (ι = i))), .int (tB li), .int (tB le), .int (tB so), .int (msk fo)])) c_5 (by decide)
  have c_12 := hs_self (e' := .inr (5, [.ref 4, .ref 6, .ref 10, .ref 11, .int (nI (nbn I (i + 1))), .ref 12, .ref 13, .int (msk rg), .int (msk (fun ι => (fun q => q < i) ι ∨ (ι = i))), .int (tB li), .int (tB le), .int (tB so), .int (msk fo)])) c_2
  refine rt_k (k := 1) (pc' := 113) (L' := [some (.ref 9), some (.int (nI i))]) (st' := [.ref 9]) (h' := ((h.set 10 (.inl (2, 8, .inl (upd M ((nbn I (i + 1)) - 1) (msk (fun ι => (lmem I i (nbn I (i + 1) - 1)) ι ∨ (ι = i))))))).set 9 (.inr (5, [.ref 4, .ref 6, .ref 10, .ref 11, .int (nI (nbn I (i + 1))), .ref 12, .ref 13, .int (msk rg), .int (msk (fun ι => (fun q => q < i) ι ∨ (ι = i))), .int (tB li), .int (tB le), .int (tB so), .int (msk fo)])))) (fun _ => rfl) ?_
  refine rt_gf rfl c_12 rfl rfl ?_
  refine rt_k (k := 2) (pc' := 118) (L' := [some (.ref 9), some (.int (nI i))]) (st' := [.int (nI 0), .int (nI i), .ref 12]) (h' := ((h.set 10 (.inl (2, 8, .inl (upd M ((nbn I (i + 1)) - 1) (msk (fun ι => (lmem I i (nbn I (i + 1) - 1)) ι ∨ (ι = i))))))).set 9 (.inr (5, [.ref 4, .ref 6, .ref 10, .ref 11, .int (nI (nbn I (i + 1))), .ref 12, .ref 13, .int (msk rg), .int (msk (fun ι => (fun q => q < i) ι ∨ (ι = i))), .int (tB li), .int (tB le), .int (tB so), .int (msk fo)])))) (fun _ => rfl) ?_
  refine rt_iasN rfl c_10 rfl (by omega) (by decide) ?_
  have f_13 : fr_ (sB) h (((h.set 10 (.inl (2, 8, .inl (upd M ((nbn I (i + 1)) - 1) (msk (fun ι => (lmem I i (nbn I (i + 1) - 1)) ι ∨ (ι = i))))))).set 9 (.inr (5, [.ref 4, .ref 6, .ref 10, .ref 11, .int (nI (nbn I (i + 1))), .ref 12, .ref 13, .int (msk rg), .int (msk (fun ι => (fun q => q < i) ι ∨ (ι = i))), .int (tB li), .int (tB le), .int (tB so), .int (msk fo)]))).set 12 (.inl (2, 32, .inl (upd R i (nI 0))))) := fr_tr f_7 (fr_set (e' := .inl (2, 32, .inl (upd R i (nI 0)))) c_10 (by rfl) (by first | decide | simp))
  have c_14 := hs_ne (a := 12) (e' := .inl (2, 32, .inl (upd R i (nI 0)))) c_12 (by decide)
  have c_15 := hs_ne (a := 12) (e' := .inl (2, 32, .inl (upd R i (nI 0)))) c_8 (by decide)
  have c_16 := hs_ne (a := 12) (e' := .inl (2, 32, .inl (upd R i (nI 0)))) c_9 (by decide)
  have c_17 := hs_ne (a := 12) (e' := .inl (2, 32, .inl (upd R i (nI 0)))) c_11 (by decide)
  have c_18 := hs_self (e' := .inl (2, 32, .inl (upd R i (nI 0)))) c_10
  refine rt_k (k := 1) (pc' := 120) (L' := [some (.ref 9), some (.int (nI i))]) (st' := [.ref 9]) (h' := (((h.set 10 (.inl (2, 8, .inl (upd M ((nbn I (i + 1)) - 1) (msk (fun ι => (lmem I i (nbn I (i + 1) - 1)) ι ∨ (ι = i))))))).set 9 (.inr (5, [.ref 4, .ref 6, .ref 10, .ref 11, .int (nI (nbn I (i + 1))), .ref 12, .ref 13, .int (msk rg), .int (msk (fun ι => (fun q => q < i) ι ∨ (ι = i))), .int (tB li), .int (tB le), .int (tB so), .int (msk fo)]))).set 12 (.inl (2, 32, .inl (upd R i (nI 0)))))) (fun _ => rfl) ?_
  refine rt_gf rfl c_14 rfl rfl ?_
  refine rt_k (k := 2) (pc' := 125) (L' := [some (.ref 9), some (.int (nI i))]) (st' := [.int (nI 0), .int (nI i), .ref 13]) (h' := (((h.set 10 (.inl (2, 8, .inl (upd M ((nbn I (i + 1)) - 1) (msk (fun ι => (lmem I i (nbn I (i + 1) - 1)) ι ∨ (ι = i))))))).set 9 (.inr (5, [.ref 4, .ref 6, .ref 10, .ref 11, .int (nI (nbn I (i + 1))), .ref 12, .ref 13, .int (msk rg), .int (msk (fun ι => (fun q => q < i) ι ∨ (ι = i))), .int (tB li), .int (tB le), .int (tB so), .int (msk fo)]))).set 12 (.inl (2, 32, .inl (upd R i (nI 0)))))) (fun _ => rfl) ?_
  refine rt_iasN rfl c_17 rfl (by omega) (by decide) ?_
  have f_19 : fr_ (sB) h ((((h.set 10 (.inl (2, 8, .inl (upd M ((nbn I (i + 1)) - 1) (msk (fun ι => (lmem I i (nbn I (i + 1) - 1)) ι ∨ (ι = i))))))).set 9 (.inr (5, [.ref 4, .ref 6, .ref 10, .ref 11, .int (nI (nbn I (i + 1))), .ref 12, .ref 13, .int (msk rg), .int (msk (fun ι => (fun q => q < i) ι ∨ (ι = i))), .int (tB li), .int (tB le), .int (tB so), .int (msk fo)]))).set 12 (.inl (2, 32, .inl (upd R i (nI 0))))).set 13 (.inl (2, 32, .inl (upd E i (nI 0))))) := fr_tr f_13 (fr_set (e' := .inl (2, 32, .inl (upd E i (nI 0)))) c_17 (by rfl) (by first | decide | simp))
  have c_20 := hs_ne (a := 13) (e' := .inl (2, 32, .inl (upd E i (nI 0)))) c_14 (by decide)
  have c_21 := hs_ne (a := 13) (e' := .inl (2, 32, .inl (upd E i (nI 0)))) c_15 (by decide)
  have c_22 := hs_ne (a := 13) (e' := .inl (2, 32, .inl (upd E i (nI 0)))) c_16 (by decide)
  have c_23 := hs_ne (a := 13) (e' := .inl (2, 32, .inl (upd E i (nI 0)))) c_18 (by decide)
  have c_24 := hs_self (e' := .inl (2, 32, .inl (upd E i (nI 0)))) c_17
  refine rt_inc (c := 1) rfl rfl ?_
  refine rt_k (k := 1) (pc' := 12) (L' := [some (.ref 9), some (.int (nI (i + 1)))]) (st' := []) (h' := ((((h.set 10 (.inl (2, 8, .inl (upd M ((nbn I (i + 1)) - 1) (msk (fun ι => (lmem I i (nbn I (i + 1) - 1)) ι ∨ (ι = i))))))).set 9 (.inr (5, [.ref 4, .ref 6, .ref 10, .ref 11, .int (nI (nbn I (i + 1))), .ref 12, .ref 13, .int (msk rg), .int (msk (fun ι => (fun q => q < i) ι ∨ (ι = i))), .int (tB li), .int (tB le), .int (tB so), .int (msk fo)]))).set 12 (.inl (2, 32, .inl (upd R i (nI 0))))).set 13 (.inl (2, 32, .inl (upd E i (nI 0)))))) (fun _ => rfl) ?_
  refine k _ f_19 ⟨_, N, _, _, ?_, c_21, c_22, c_23, c_24, ?_, HN, ?_⟩
  · rw [show msk (fun q => q < i + 1) = msk (fun ι => (fun q => q < i) ι ∨ ι = i) from msk_cg (fun q _ => by show _ ↔ q < i ∨ q = i; omega)]
    exact c_20
  · intro g hg
    unfold upd
    by_cases e : g = nbn I (i + 1) - 1
    · rw [if_pos e]
      refine msk_cg (fun q _ => ?_)
      show (lmem I i _ q ∨ q = i) ↔ lmem I (i + 1) g q
      unfold lmem
      constructor
      · rintro (⟨a, b⟩ | rfl)
        · exact ⟨by omega, by omega⟩
        · exact ⟨by omega, by omega⟩
      · rintro ⟨a, b⟩
        by_cases e2 : q = i
        · exact Or.inr e2
        · exact Or.inl ⟨by omega, by omega⟩
    · rw [if_neg e, HM g hg]
      refine msk_cg (fun q _ => ?_)
      unfold lmem
      constructor
      · rintro ⟨a, b⟩
        exact ⟨by omega, b⟩
      · rintro ⟨a, b⟩
        refine ⟨?_, b⟩
        by_cases e2 : q = i
        · subst e2; omega
        · omega
  · intro p hp
    unfold upd
    by_cases e : p = i
    · rw [if_pos e, if_pos e, msk_0]; exact ⟨rfl, rfl⟩
    · rw [if_neg e, if_neg e]; exact HR p (by omega)
theorem so_lg1 (h8 : nbn I I.length ≤ 8) (i : Nat) (h : List va_E) (CI : cI h I nx) (hi : i ≤ I.length) (C : LG h I i i (nbn I i) rg li le so fo) (k : ∀ h' x, fr_ sB h h' → LG h' I I.length I.length (nbn I I.length) rg li le so fo → rt_ X (d + 1) 74 132 [some (.ref 9), x] [] h' Q) : rt_ X (d + 1) 74 12 [some (.ref 9), some (.int (nI i))] [] h Q := by
  obtain ⟨M, N, R, E, c9, c10, c11, c12, c13, HM, HN, HR⟩ := id C
  obtain ⟨F, d4, d5, hn, -, HI⟩ := id CI
  refine rt_k (k := 2) (pc' := 14) (L' := [some (.ref 9), some (.int (nI i))]) (st' := [.ref 9, .int (nI i)]) (h' := h) (fun _ => rfl) ?_
  refine rt_gf rfl c9 rfl rfl ?_
  refine rt_cvE (v := some (.int (nI I.length))) (h' := h) rfl (by decide) d4 rfl rfl rfl rfl ?_ ?_
  · refine rt_k (k := 1) (pc' := 1) (L' := [some (.ref 4)]) (st' := [.ref 4]) (h' := h) (fun _ => rfl) ?_
    refine rt_gf rfl d4 rfl rfl ?_
    exact rt_r (v := some (.int (nI I.length))) rfl rfl ⟨rfl, rfl⟩
  refine rt_ige rfl (by omega) (by omega) (fun z => ?_) (fun z => ?_)
  ·
    have e : i = I.length := by omega
    subst e
    exact k h _ fr_rf C
  have g8 := nbn_mo (I := I) (show i + 1 ≤ I.length by omega)
  have gl := nbn_le I i
  obtain ⟨r, hr⟩ := gt_ex z
  obtain ⟨a, fa, za⟩ := HI i r hr
  obtain ⟨v, nd, bk, ps, ca, -⟩ := za.at
  refine rt_k (k := 1) (pc' := 24) (L' := [some (.ref 9), some (.int (nI i))]) (st' := [.ref 9]) (h' := h) (fun _ => rfl) ?_
  refine rt_gf rfl c9 rfl rfl ?_
  refine rt_k (k := 1) (pc' := 28) (L' := [some (.ref 9), some (.int (nI i))]) (st' := [.int (nI i), .ref 4]) (h' := h) (fun _ => rfl) ?_
  refine rt_cvE rfl (by decide) d4 rfl rfl rfl rfl (ix_begins CI i z) ?_
  refine rt_pe rfl (fun zb => ?_) (fun zb => ?_)
  ·
    have e : nbn I (i + 1) = nbn I i := nbn_s0 zb
    have HN' : GN I (i + 1) N := fun p r' hp hr' hb => by
      refine HN p r' ?_ hr' hb
      by_cases q : p = i
      · subst q; exact absurd hb zb
      · omega
    refine so_lg2 CI z h8 (by rw [e]; exact ⟨M, N, R, E, c9, c10, c11, c12, c13, HM, HN', HR⟩) (fun h' f1 C1 => ?_)
    exact so_lg1 h8 (i + 1) h' (CI.fm f1 (by decide) (by decide) sB_zz) z C1 (fun h2 x f2 => k h2 x (fr_tr f1 f2))
  have e : nbn I (i + 1) = nbn I i + 1 := nbn_s1 zb
  refine rt_k (k := 1) (pc' := 35) (L' := [some (.ref 9), some (.int (nI i))]) (st' := [.ref 9]) (h' := h) (fun _ => rfl) ?_
  refine rt_gf rfl c9 rfl rfl ?_
  refine rt_k (k := 1) (pc' := 40) (L' := [some (.ref 9), some (.int (nI i))]) (st' := [.int (nI 8), .int (nI (nbn I i))]) (h' := h) (fun _ => rfl) ?_
  refine rt_ige rfl (by omega) (by decide) (fun z => absurd z (by omega)) (fun _ => ?_)
  refine rt_k (k := 1) (pc' := 44) (L' := [some (.ref 9), some (.int (nI i))]) (st' := [.ref 9]) (h' := h) (fun _ => rfl) ?_
  refine rt_gf rfl c9 rfl rfl ?_
  refine rt_k (k := 1) (pc' := 48) (L' := [some (.ref 9), some (.int (nI i))]) (st' := [.ref 9, .ref 11]) (h' := h) (fun _ => rfl) ?_
  refine rt_gf rfl c9 rfl rfl ?_
  refine rt_k (k := 1) (pc' := 52) (L' := [some (.ref 9), some (.int (nI i))]) (st' := [.ref 9, .int (nI (nbn I i)), .ref 11]) (h' := h) (fun _ => rfl) ?_
  refine rt_gf rfl c9 rfl rfl ?_
  refine rt_k (k := 1) (pc' := 56) (L' := [some (.ref 9), some (.int (nI i))]) (st' := [.int (nI i), .ref 4, .int (nI (nbn I i)), .ref 11]) (h' := h) (fun _ => rfl) ?_
  refine rt_cvE (v := some (.ref a)) (h' := h) rfl (by decide) d4 rfl rfl rfl rfl ?_ ?_
  · refine rt_k (k := 1) (pc' := 1) (L' := [some (.ref 4), some (.int (nI i))]) (st' := [.ref 4]) (h' := h) (fun _ => rfl) ?_
    refine rt_gf rfl d4 rfl rfl ?_
    refine rt_k (k := 1) (pc' := 5) (L' := [some (.ref 4), some (.int (nI i))]) (st' := [.int (nI i), .ref 5]) (h' := h) (fun _ => rfl) ?_
    refine rt_aalN rfl d5 rfl (by omega) (by decide) fa ?_
    exact rt_r (v := some (.ref a)) rfl rfl ⟨rfl, rfl⟩
  refine rt_gf rfl ca rfl rfl ?_
  refine rt_lasN rfl c11 rfl (by omega) (by decide) ?_
  have f_25 : fr_ (sB) h (h.set 11 (.inl (1, 8, .inr (.inl (vp_updL N (nbn I i) (nmI (lNm r))))))) := fr_set (e' := .inl (1, 8, .inr (.inl (vp_updL N (nbn I i) (nmI (lNm r)))))) c11 (by rfl) (by first | decide | simp)
  have c_26 := hs_ne (a := 11) (e' := .inl (1, 8, .inr (.inl (vp_updL N (nbn I i) (nmI (lNm r)))))) c9 (by decide)
  have c_27 := hs_ne (a := 11) (e' := .inl (1, 8, .inr (.inl (vp_updL N (nbn I i) (nmI (lNm r)))))) d4 (by decide)
  have c_28 := hs_ne (a := 11) (e' := .inl (1, 8, .inr (.inl (vp_updL N (nbn I i) (nmI (lNm r)))))) d5 (by decide)
  have c_29 := hs_ne (a := 11) (e' := .inl (1, 8, .inr (.inl (vp_updL N (nbn I i) (nmI (lNm r)))))) c10 (by decide)
  have c_30 := hs_ne (a := 11) (e' := .inl (1, 8, .inr (.inl (vp_updL N (nbn I i) (nmI (lNm r)))))) c12 (by decide)
  have c_31 := hs_ne (a := 11) (e' := .inl (1, 8, .inr (.inl (vp_updL N (nbn I i) (nmI (lNm r)))))) c13 (by decide)
  have c_32 := hs_ne (a := 11) (e' := .inl (1, 8, .inr (.inl (vp_updL N (nbn I i) (nmI (lNm r)))))) ca (fun q => by subst q; rw [c11] at ca; cases ca)
  have c_33 := hs_self (e' := .inl (1, 8, .inr (.inl (vp_updL N (nbn I i) (nmI (lNm r)))))) c11
  refine rt_k (k := 1) (pc' := 64) (L' := [some (.ref 9), some (.int (nI i))]) (st' := [.ref 9]) (h' := (h.set 11 (.inl (1, 8, .inr (.inl (vp_updL N (nbn I i) (nmI (lNm r)))))))) (fun _ => rfl) ?_
  refine rt_gf rfl c_26 rfl rfl ?_
  refine rt_k (k := 1) (pc' := 68) (L' := [some (.ref 9), some (.int (nI i))]) (st' := [.ref 9, .ref 10]) (h' := (h.set 11 (.inl (1, 8, .inr (.inl (vp_updL N (nbn I i) (nmI (lNm r)))))))) (fun _ => rfl) ?_
  refine rt_gf rfl c_26 rfl rfl ?_
  refine rt_k (k := 1) (pc' := 72) (L' := [some (.ref 9), some (.int (nI i))]) (st' := [.int (nI 0), .int (nI (nbn I i)), .ref 10]) (h' := (h.set 11 (.inl (1, 8, .inr (.inl (vp_updL N (nbn I i) (nmI (lNm r)))))))) (fun _ => rfl) ?_
  refine rt_iasN rfl c_29 rfl (by omega) (by decide) ?_
  have f_34 : fr_ (sB) h ((h.set 11 (.inl (1, 8, .inr (.inl (vp_updL N (nbn I i) (nmI (lNm r))))))).set 10 (.inl (2, 8, .inl (upd M (nbn I i) (nI 0))))) := fr_tr f_25 (fr_set (e' := .inl (2, 8, .inl (upd M (nbn I i) (nI 0)))) c_29 (by rfl) (by first | decide | simp))
  have c_35 := hs_ne (a := 10) (e' := .inl (2, 8, .inl (upd M (nbn I i) (nI 0)))) c_26 (by decide)
  have c_36 := hs_ne (a := 10) (e' := .inl (2, 8, .inl (upd M (nbn I i) (nI 0)))) c_27 (by decide)
  have c_37 := hs_ne (a := 10) (e' := .inl (2, 8, .inl (upd M (nbn I i) (nI 0)))) c_28 (by decide)
  have c_38 := hs_ne (a := 10) (e' := .inl (2, 8, .inl (upd M (nbn I i) (nI 0)))) c_33 (by decide)
  have c_39 := hs_ne (a := 10) (e' := .inl (2, 8, .inl (upd M (nbn I i) (nI 0)))) c_30 (by decide)
  have c_40 := hs_ne (a := 10) (e' := .inl (2, 8, .inl (upd M (nbn I i) (nI 0)))) c_31 (by decide)
  have c_41 := hs_ne (a := 10) (e' := .inl (2, 8, .inl (upd M (nbn I i) (nI 0)))) c_32 (fun q => by subst q; rw [c10] at ca; cases ca)
  have c_42 := hs_self (e' := .inl (2, 8, .inl (upd M (nbn I i) (nI 0)))) c_29
  refine rt_k (k := 2) (pc' := 75) (L' := [some (.ref 9), some (.int (nI i))]) (st' := [.ref 9, .ref 9]) (h' := ((h.set 11 (.inl (1, 8, .inr (.inl (vp_updL N (nbn I i) (nmI (lNm r))))))).set 10 (.inl (2, 8, .inl (upd M (nbn I i) (nI 0)))))) (fun _ => rfl) ?_
  refine rt_gf rfl c_35 rfl rfl ?_
  refine rt_k (k := 1) (pc' := 79) (L' := [some (.ref 9), some (.int (nI i))]) (st' := [.int (nI 1), .int (nI (nbn I i)), .ref 9]) (h' := ((h.set 11 (.inl (1, 8, .inr (.inl (vp_updL N (nbn I i) (nmI (lNm r))))))).set 10 (.inl (2, 8, .inl (upd M (nbn I i) (nI 0)))))) (fun _ => rfl) ?_
  refine rt_add rfl ?_
  refine rt_pf rfl c_35 ⟨rfl, (show 4 < 13 by decide), rfl⟩ ?_
  have f_43 : fr_ (sB) h (((h.set 11 (.inl (1, 8, .inr (.inl (vp_updL N (nbn I i) (nmI (lNm r))))))).set 10 (.inl (2, 8, .inl (upd M (nbn I i) (nI 0))))).set 9 (.inr (5, [.ref 4, .ref 6, .ref 10, .ref 11, .int (nI (nbn I i + 1)), .ref 12, .ref 13, .int (msk rg), .int (msk (fun q => q < i)), .int (tB li), .int (tB le), .int (tB so), .int (msk fo)]))) := fr_tr f_34 (fr_set (e' := .inr (5, [.ref 4, .ref 6, .ref 10, .ref 11, .int (nI (nbn I i + 1)), .ref 12, .ref 13, .int (msk rg), .int (msk (fun q => q < i)), .int (tB li), .int (tB le), .int (tB so), .int (msk fo)])) c_35 (by rfl) (by first | decide | simp))
  have c_44 := hs_ne (a := 9) (e' := .inr (5, [.ref 4, .ref 6, .ref 10, .ref 11, .int (nI (nbn I i + 1)), .ref 12, .ref 13, .int (msk rg), .int (msk (fun q => q < i)), .int (tB li), .int (tB le), .int (tB so), .int (msk fo)])) c_36 (by decide)
  have c_45 := hs_ne (a := 9) (e' := .inr (5, [.ref 4, .ref 6, .ref 10, .ref 11, .int (nI (nbn I i + 1)), .ref 12, .ref 13, .int (msk rg), .int (msk (fun q => q < i)), .int (tB li), .int (tB le), .int (tB so), .int (msk fo)])) c_37 (by decide)
  have c_46 := hs_ne (a := 9) (e' := .inr (5, [.ref 4, .ref 6, .ref 10, .ref 11, .int (nI (nbn I i + 1)), .ref 12, .ref 13, .int (msk rg), .int (msk (fun q => q < i)), .int (tB li), .int (tB le), .int (tB so), .int (msk fo)])) c_42 (by decide)
  have c_47 := hs_ne (a := 9) (e' := .inr (5, [.ref 4, .ref 6, .ref 10, .ref 11, .int (nI (nbn I i + 1)), .ref 12, .ref 13, .int (msk rg), .int (msk (fun q => q < i)), .int (tB li), .int (tB le), .int (tB so), .int (msk fo)])) c_38 (by decide)
  have c_48 := hs_ne (a := 9) (e' := .inr (5, [.ref 4, .ref 6, .ref 10, .ref 11, .int (nI (nbn I i + 1)), .ref 12, .ref 13, .int (msk rg), .int (msk (fun q => q < i)), .int (tB li), .int (tB le), .int (tB so), .int (msk fo)])) c_39 (by decide)
  have c_49 := hs_ne (a := 9) (e' := .inr (5, [.ref 4, .ref 6, .ref 10, .ref 11, .int (nI (nbn I i + 1)), .ref 12, .ref 13, .int (msk rg), .int (msk (fun q => q < i)), .int (tB li), .int (tB le), .int (tB so), .int (msk fo)])) c_40 (by decide)
  have c_50 := hs_ne (a := 9) (e' := .inr (5, [.ref 4, .ref 6, .ref 10, .ref 11, .int (nI (nbn I i + 1)), .ref 12, .ref 13, .int (msk rg), .int (msk (fun q => q < i)), .int (tB li), .int (tB le), .int (tB so), .int (msk fo)])) c_41 (fun q => by subst q; rw [c9] at ca; cases ca)
  have c_51 := hs_self (e' := .inr (5, [.ref 4, .ref 6, .ref 10, .ref 11, .int (nI (nbn I i + 1)), .ref 12, .ref 13, .int (msk rg), .int (msk (fun q => q < i)), .int (tB li), .int (tB le), .int (tB so), .int (msk fo)])) c_35
  have L1 : LG (((h.set 11 (.inl (1, 8, .inr (.inl (vp_updL N (nbn I i) (nmI (lNm r))))))).set 10 (.inl (2, 8, .inl (upd M (nbn I i) (nI 0))))).set 9 (.inr (5, [.ref 4, .ref 6, .ref 10, .ref 11, .int (nI (nbn I i + 1)), .ref 12, .ref 13, .int (msk rg), .int (msk (fun q => q < i)), .int (tB li), .int (tB le), .int (tB so), .int (msk fo)]))) I i (i + 1) (nbn I (i + 1)) rg li le so fo := by
    rw [e]
    refine ⟨_, _, R, E, c_51, c_46, c_47, c_48, c_49, fun g hg => ?_, fun p r' hp hr' hb => ?_, HR⟩
    · unfold upd
      by_cases q : g = nbn I i
      · rw [if_pos q, show nI 0 = 0 from rfl, ← msk_0]
        refine msk_cg (fun x _ => ⟨fun w => absurd w id, fun w => ?_⟩)
        unfold lmem at w
        have := nbn_mo (I := I) (show x + 1 ≤ i by omega)
        omega
      · rw [if_neg q]; exact HM g (by omega)
    · unfold vp_updL
      by_cases q : p = i
      · subst q; rw [if_pos rfl]; rw [hr] at hr'; cases hr'; rfl
      · have := nbn_mo (I := I) (show p + 1 ≤ i by omega)
        rw [nbn_s1 hb] at this
        rw [if_neg (by omega)]
        exact HN p r' (by omega) hr' hb
  refine so_lg2 (CI.fm f_43 (by decide) (by decide) sB_zz) z h8 L1 (fun h' f1 C1 => ?_)
  exact so_lg1 h8 (i + 1) h' (CI.fm (fr_tr f_43 f1) (by decide) (by decide) sB_zz) z C1 (fun h2 x f2 => k h2 x (fr_tr (fr_tr f_43 f1) f2))
termination_by I.length - i
theorem so_groups (CI : cI h I nx) (h8 : nbn I I.length ≤ 8) (c9 : ∃ G0 op0, h[9]? = some (.inr (5, [.ref 4, .ref 6, .ref 10, .ref 11, .int G0, .ref 12, .ref 13, .int (msk rg), .int op0, .int (tB li), .int (tB le), .int (tB so), .int (msk fo)]))) (c10 : ∃ M, h[10]? = some (.inl (2, 8, .inl M))) (c11 : ∃ N, h[11]? = some (.inl (1, 8, .inr (.inl N)))) (c12 : ∃ R, h[12]? = some (.inl (2, 32, .inl R))) (c13 : ∃ E, h[13]? = some (.inl (2, 32, .inl E))) : rt_ X (d + 1) 74 0 [some (.ref 9), none] [] h (fun v h' => v = none ∧ fr_ sB h h' ∧ ∃ gn, GN I I.length gn ∧ sR h' I.length (nbn I I.length) (lmem I I.length) gn (fun _ _ => False) (fun _ _ => False) rg (fun q => q < I.length) li le so fo) := by
  obtain ⟨G0, op0, c9⟩ := c9
  obtain ⟨M, c10⟩ := c10
  obtain ⟨N, c11⟩ := c11
  obtain ⟨R, c12⟩ := c12
  obtain ⟨E, c13⟩ := c13
  refine rt_k (k := 2) (pc' := 2) (L' := [some (.ref 9), none]) (st' := [.int (nI 0), .ref 9]) (h' := h) (fun _ => rfl) ?_
  refine rt_pf rfl c9 ⟨rfl, (show 4 < 13 by decide), rfl⟩ ?_
  have f_52 : fr_ (sB) h (h.set 9 (.inr (5, [.ref 4, .ref 6, .ref 10, .ref 11, .int (nI 0), .ref 12, .ref 13, .int (msk rg), .int op0, .int (tB li), .int (tB le), .int (tB so), .int (msk fo)]))) := fr_set (e' := .inr (5, [.ref 4, .ref 6, .ref 10, .ref 11, .int (nI 0), .ref 12, .ref 13, .int (msk rg), .int op0, .int (tB li), .int (tB le), .int (tB so), .int (msk fo)])) c9 (by rfl) (by first | decide | simp)
  have c_53 := hs_ne (a := 9) (e' := .inr (5, [.ref 4, .ref 6, .ref 10, .ref 11, .int (nI 0), .ref 12, .ref 13, .int (msk rg), .int op0, .int (tB li), .int (tB le), .int (tB so), .int (msk fo)])) c10 (by decide)
  have c_54 := hs_ne (a := 9) (e' := .inr (5, [.ref 4, .ref 6, .ref 10, .ref 11, .int (nI 0), .ref 12, .ref 13, .int (msk rg), .int op0, .int (tB li), .int (tB le), .int (tB so), .int (msk fo)])) c11 (by decide)
  have c_55 := hs_ne (a := 9) (e' := .inr (5, [.ref 4, .ref 6, .ref 10, .ref 11, .int (nI 0), .ref 12, .ref 13, .int (msk rg), .int op0, .int (tB li), .int (tB le), .int (tB so), .int (msk fo)])) c12 (by decide)
  have c_56 := hs_ne (a := 9) (e' := .inr (5, [.ref 4, .ref 6, .ref 10, .ref 11, .int (nI 0), .ref 12, .ref 13, .int (msk rg), .int op0, .int (tB li), .int (tB le), .int (tB so), .int (msk fo)])) c13 (by decide)
  have c_57 := hs_self (e' := .inr (5, [.ref 4, .ref 6, .ref 10, .ref 11, .int (nI 0), .ref 12, .ref 13, .int (msk rg), .int op0, .int (tB li), .int (tB le), .int (tB so), .int (msk fo)])) c9
  refine rt_k (k := 2) (pc' := 7) (L' := [some (.ref 9), none]) (st' := [.int (nI 0), .ref 9]) (h' := (h.set 9 (.inr (5, [.ref 4, .ref 6, .ref 10, .ref 11, .int (nI 0), .ref 12, .ref 13, .int (msk rg), .int op0, .int (tB li), .int (tB le), .int (tB so), .int (msk fo)])))) (fun _ => rfl) ?_
  refine rt_pf rfl c_57 ⟨rfl, (show 8 < 13 by decide), rfl⟩ ?_
  have f_58 : fr_ (sB) h ((h.set 9 (.inr (5, [.ref 4, .ref 6, .ref 10, .ref 11, .int (nI 0), .ref 12, .ref 13, .int (msk rg), .int op0, .int (tB li), .int (tB le), .int (tB so), .int (msk fo)]))).set 9 (.inr (5, [.ref 4, .ref 6, .ref 10, .ref 11, .int (nI 0), .ref 12, .ref 13, .int (msk rg), .int (nI 0), .int (tB li), .int (tB le), .int (tB so), .int (msk fo)]))) := fr_tr f_52 (fr_set (e' := .inr (5, [.ref 4, .ref 6, .ref 10, .ref 11, .int (nI 0), .ref 12, .ref 13, .int (msk rg), .int (nI 0), .int (tB li), .int (tB le), .int (tB so), .int (msk fo)])) c_57 (by rfl) (by first | decide | simp))
  have c_59 := hs_ne (a := 9) (e' := .inr (5, [.ref 4, .ref 6, .ref 10, .ref 11, .int (nI 0), .ref 12, .ref 13, .int (msk rg), .int (nI 0), .int (tB li), .int (tB le), .int (tB so), .int (msk fo)])) c_53 (by decide)
  have c_60 := hs_ne (a := 9) (e' := .inr (5, [.ref 4, .ref 6, .ref 10, .ref 11, .int (nI 0), .ref 12, .ref 13, .int (msk rg), .int (nI 0), .int (tB li), .int (tB le), .int (tB so), .int (msk fo)])) c_54 (by decide)
  have c_61 := hs_ne (a := 9) (e' := .inr (5, [.ref 4, .ref 6, .ref 10, .ref 11, .int (nI 0), .ref 12, .ref 13, .int (msk rg), .int (nI 0), .int (tB li), .int (tB le), .int (tB so), .int (msk fo)])) c_55 (by decide)
  have c_62 := hs_ne (a := 9) (e' := .inr (5, [.ref 4, .ref 6, .ref 10, .ref 11, .int (nI 0), .ref 12, .ref 13, .int (msk rg), .int (nI 0), .int (tB li), .int (tB le), .int (tB so), .int (msk fo)])) c_56 (by decide)
  have c_63 := hs_self (e' := .inr (5, [.ref 4, .ref 6, .ref 10, .ref 11, .int (nI 0), .ref 12, .ref 13, .int (msk rg), .int (nI 0), .int (tB li), .int (tB le), .int (tB so), .int (msk fo)])) c_57
  refine rt_k (k := 2) (pc' := 12) (L' := [some (.ref 9), some (.int (nI 0))]) (st' := []) (h' := ((h.set 9 (.inr (5, [.ref 4, .ref 6, .ref 10, .ref 11, .int (nI 0), .ref 12, .ref 13, .int (msk rg), .int op0, .int (tB li), .int (tB le), .int (tB so), .int (msk fo)]))).set 9 (.inr (5, [.ref 4, .ref 6, .ref 10, .ref 11, .int (nI 0), .ref 12, .ref 13, .int (msk rg), .int (nI 0), .int (tB li), .int (tB le), .int (tB so), .int (msk fo)])))) (fun _ => rfl) ?_
  refine so_lg1 (rg := rg) (li := li) (le := le) (so := so) (fo := fo) h8 0 _ (CI.fm f_58 (by decide) (by decide) sB_zz) (Nat.zero_le _) ⟨M, N, R, E, ?_, c_59, c_60, c_61, c_62, fun g hg => absurd hg (Nat.not_lt_zero _), fun p r hp => absurd hp (Nat.not_lt_zero _), fun p hp => absurd hp (Nat.not_lt_zero _)⟩ (fun h1 x f1 C1 => ?_)
  · rw [show msk (fun q => q < 0) = nI 0 from by rw [show nI 0 = 0 from rfl, ← msk_0]; exact msk_cg (fun q _ => ⟨fun w => absurd w (Nat.not_lt_zero _), fun w => absurd w id⟩)]
    exact c_63
  obtain ⟨M', N', R', E', k9, k10, k11, k12, k13, HM, HN, HR⟩ := C1
  obtain ⟨F, d4, d5, hn, -, HI⟩ := id (CI.fm (fr_tr f_58 f1) (by decide) (by decide) sB_zz)
  exact rt_r (v := none) rfl rfl ⟨rfl, fr_tr f_58 f1, N', HN, M', N', R', E', nx, k9, k10, k11, k12, k13, d4, h8, hn, fun g hg => ⟨HM g hg, rfl⟩, HR⟩
end SO7

