/-! THE KEEPER'S CALLS, 3: rollback, current, step. -/
section KE
variable {X : Nat × (Nat → Int32)} {d : Nat} {h : List va_E} {Q : Option Value → List va_E → Prop} {I : List kL} {nx : Nat} {D : kD} {K : List kG} {made : Nat} {st : kS}
theorem i32_nat {x : Int32} {n : Nat} (h0 : ¬ x < 0) (h1 : x < nI n) (hn : n < 2147483648) : ∃ j, j < n ∧ x = nI j := by
  have a : 0 ≤ x.toInt := by
    by_cases q : x.toInt < 0
    · exact absurd (Int32.lt_iff_toInt_lt.mpr (by rw [show (0 : Int32).toInt = 0 by decide]; exact q)) h0
    · omega
  have b := Int32.lt_iff_toInt_lt.mp h1
  have c : (nI n).toInt = n := Int32.toInt_ofNat_of_lt (by omega)
  rw [c] at b
  refine ⟨x.toInt.toNat, by omega, ?_⟩
  apply Int32.toInt_inj.mp
  have e : (nI x.toInt.toNat).toInt = x.toInt.toNat := Int32.toInt_ofNat_of_lt (by omega)
  rw [e]
  omega
theorem kp_rollback {g t : kG} (K0 : pk0 h) (CH : cH h K made st) (hg : K[K.length - 1]? = some g) (ht : 1 < K.length → K[K.length - 2]? = some t) (cu : Int32) : rt_ X (d + 3) 108 0 [some (.ref 0), some (.int cu)] [] h (fun v h' => (¬ 1 < K.length ∧ v = some (.int (-2)) ∧ h' = h) ∨ (1 < K.length ∧ ¬ cu < 0 ∧ v = some (.int (-5)) ∧ h' = h) ∨ (1 < K.length ∧ cu < 0 ∧ v = some (.int (nI t.length)) ∧ fr_ hA h h' ∧ cH h' (K.take (K.length - 1)) made (wkS g t))) := by
  obtain ⟨F, hC0, k1, k4, hm6, HK⟩ := id CH
  obtain ⟨SN, SC, c14, -⟩ := id hC0
  refine rt_k (k := 1) (pc' := 1) (L' := [some (.ref 0), some (.int cu)]) (st' := [.ref 0]) (h' := h) (fun _ => rfl) ?_
  refine rt_gf rfl K0 rfl rfl ?_
  refine rt_cvE rfl (by decide) c14 rfl rfl rfl rfl (his_earlier hC0 k4) ?_
  refine rt_pn rfl (fun z => ?_) (fun z => ?_)
  rotate_left
  ·
    refine rt_k (k := 1) (pc' := 12) (L' := [some (.ref 0), some (.int cu)]) (st' := [.int (-2)]) (h' := h) (fun _ => rfl) ?_
    exact rt_r (v := some (.int (-2))) rfl rfl (Or.inl ⟨z, rfl, rfl⟩)
  refine rt_k (k := 1) (pc' := 14) (L' := [some (.ref 0), some (.int cu)]) (st' := [.int cu]) (h' := h) (fun _ => rfl) ?_
  refine rt_qlt rfl (fun z2 => ?_) (fun z2 => ?_)
  rotate_left
  ·
    refine rt_k (k := 1) (pc' := 19) (L' := [some (.ref 0), some (.int cu)]) (st' := [.int (-5)]) (h' := h) (fun _ => rfl) ?_
    exact rt_r (v := some (.int (-5))) rfl rfl (Or.inr (Or.inl ⟨z, z2, rfl, rfl⟩))
  have ht := ht z
  refine rt_k (k := 1) (pc' := 21) (L' := [some (.ref 0), some (.int cu)]) (st' := [.ref 0]) (h' := h) (fun _ => rfl) ?_
  refine rt_gf rfl K0 rfl rfl ?_
  refine rt_cv rfl (by decide) c14 rfl rfl rfl rfl (his_back CH z hg ht) ?_
  rintro _ h1 ⟨rfl, f1, C1⟩
  have K1 : pk0 h1 := fr_at f1 (by unfold hA; omega) K0
  obtain ⟨F1, hC1, j1, j4, -, HK1⟩ := id C1
  obtain ⟨SN1, SC1, d14, -⟩ := id hC1
  have lt1 : (K.take (K.length - 1)).length = K.length - 1 := by rw [List.length_take]; omega
  have ht' : (K.take (K.length - 1))[(K.take (K.length - 1)).length - 1]? = some t := by
    rw [lt1, List.getElem?_take_of_lt (by omega), show K.length - 1 - 1 = K.length - 2 by omega]; exact ht
  obtain ⟨b, fb, zb⟩ := HK1 _ t ht'
  obtain ⟨od, ci, cb⟩ := zb.c
  refine rt_k (k := 1) (pc' := 28) (L' := [some (.ref 0), some (.int cu)]) (st' := [.ref 0]) (h' := h1) (fun _ => rfl) ?_
  refine rt_gf rfl K1 rfl rfl ?_
  refine rt_cvE rfl (by decide) d14 rfl rfl rfl rfl (his_top hC1 j1 j4 fb) ?_
  refine rt_cvE (v := some (.int (nI t.length))) (h' := h1) rfl (by decide) cb rfl rfl rfl rfl ?_ ?_
  · refine rt_k (k := 1) (pc' := 1) (L' := [some (.ref b)]) (st' := [.ref b]) (h' := h1) (fun _ => rfl) ?_
    refine rt_gf rfl cb rfl rfl ?_
    exact rt_r (v := some (.int (nI t.length))) rfl rfl ⟨rfl, rfl⟩
  exact rt_r (v := some (.int (nI t.length))) rfl rfl (Or.inr (Or.inr ⟨z, z2, rfl, f1, C1⟩))
/-- what current answers: of a generation, a place, what is asked -/
def curP (g : kG) (k w : Int32) (v : Option Value) : Prop := (¬ w = 0 ∧ ¬ w = 1 ∧ v = some (.int (-1))) ∨ ((w = 0 ∨ w = 1) ∧ (k < 0 ∨ ¬ k < nI g.length) ∧ v = some (.int (-2))) ∨ (∃ (j : Nat) (e : kL × Nat), k = nI j ∧ g[j]? = some e ∧ ((w = 0 ∧ v = some (.int (nI (lNo e.1)))) ∨ (w = 1 ∧ v = some (.int (nI e.2)))))
theorem kp_current {g : kG} (K0 : pk0 h) (CH : cH h K made st) (hg : K[K.length - 1]? = some g) (k w : Int32) : rt_ X (d + 2) 113 0 [some (.ref 0), some (.int k), some (.int w), none] [] h (fun v h' => h' = h ∧ curP g k w v) := by
  obtain ⟨F, hC0, k1, k4, hm6, HK⟩ := id CH
  obtain ⟨SN, SC, c14, -⟩ := id hC0
  obtain ⟨a, fa, za⟩ := HK _ g hg
  obtain ⟨od, ci, G, S, ⟨-, a1⟩, ⟨-, a2⟩, ⟨-, a3⟩, hn, HG⟩ := id za
  have body : (w = 0 ∨ w = 1) → rt_ X (d + 2) 113 11 [some (.ref 0), some (.int k), some (.int w), none] [] h (fun v h' => h' = h ∧ curP g k w v) := fun hw => by
    refine rt_k (k := 1) (pc' := 12) (L' := [some (.ref 0), some (.int k), some (.int w), none]) (st' := [.ref 0]) (h' := h) (fun _ => rfl) ?_
    refine rt_gf rfl K0 rfl rfl ?_
    refine rt_cvE rfl (by decide) c14 rfl rfl rfl rfl (his_top hC0 k1 k4 fa) ?_
    refine rt_k (k := 2) (pc' := 20) (L' := [some (.ref 0), some (.int k), some (.int w), some (.ref a)]) (st' := [.int k]) (h' := h) (fun _ => rfl) ?_
    refine rt_qlt rfl (fun z => ?_) (fun z => ?_)
    ·
      refine rt_k (k := 1) (pc' := 33) (L' := [some (.ref 0), some (.int k), some (.int w), some (.ref a)]) (st' := [.int (-2)]) (h' := h) (fun _ => rfl) ?_
      exact rt_r (v := some (.int (-2))) rfl rfl (⟨rfl, Or.inr (Or.inl ⟨hw, Or.inl z, rfl⟩)⟩)
    refine rt_k (k := 2) (pc' := 25) (L' := [some (.ref 0), some (.int k), some (.int w), some (.ref a)]) (st' := [.ref a, .int k]) (h' := h) (fun _ => rfl) ?_
    refine rt_cvE (v := some (.int (nI g.length))) (h' := h) rfl (by decide) a1 rfl rfl rfl rfl ?_ ?_
    · refine rt_k (k := 1) (pc' := 1) (L' := [some (.ref a)]) (st' := [.ref a]) (h' := h) (fun _ => rfl) ?_
      refine rt_gf rfl a1 rfl rfl ?_
      exact rt_r (v := some (.int (nI g.length))) rfl rfl ⟨rfl, rfl⟩
    refine rt_jlt rfl (fun z2 => ?_) (fun z2 => ?_)
    rotate_left
    ·
      refine rt_k (k := 1) (pc' := 33) (L' := [some (.ref 0), some (.int k), some (.int w), some (.ref a)]) (st' := [.int (-2)]) (h' := h) (fun _ => rfl) ?_
      exact rt_r (v := some (.int (-2))) rfl rfl (⟨rfl, Or.inr (Or.inl ⟨hw, Or.inr z2, rfl⟩)⟩)
    obtain ⟨j, hj, rfl⟩ := i32_nat z z2 (by omega)
    obtain ⟨e, he⟩ := gt_ex hj
    obtain ⟨s1, b, fb, zb⟩ := HG j e he
    obtain ⟨v, nd, bk, ps, cb, -⟩ := zb.at
    refine rt_k (k := 1) (pc' := 35) (L' := [some (.ref 0), some (.int (nI j)), some (.int w), some (.ref a)]) (st' := [.int w]) (h' := h) (fun _ => rfl) ?_
    refine rt_qn rfl (fun z3 => ?_) (fun z3 => ?_)
    ·
      refine rt_k (k := 2) (pc' := 51) (L' := [some (.ref 0), some (.int (nI j)), some (.int w), some (.ref a)]) (st' := [.int (nI j), .ref a]) (h' := h) (fun _ => rfl) ?_
      refine rt_cvE (v := some (.int (nI e.2))) (h' := h) rfl (by decide) a1 rfl rfl rfl rfl ?_ ?_
      · refine rt_k (k := 1) (pc' := 1) (L' := [some (.ref a), some (.int (nI j))]) (st' := [.ref a]) (h' := h) (fun _ => rfl) ?_
        refine rt_gf rfl a1 rfl rfl ?_
        refine rt_k (k := 1) (pc' := 5) (L' := [some (.ref a), some (.int (nI j))]) (st' := [.int (nI j), .ref ci]) (h' := h) (fun _ => rfl) ?_
        refine rt_ialN rfl a3 rfl (by omega) (by omega) s1 ?_
        exact rt_r (v := some (.int (nI e.2))) rfl rfl ⟨rfl, rfl⟩
      exact rt_r (v := some (.int (nI e.2))) rfl rfl (⟨rfl, Or.inr (Or.inr ⟨j, e, rfl, he, Or.inr ⟨hw.resolve_left z3, rfl⟩⟩)⟩)
    refine rt_k (k := 2) (pc' := 40) (L' := [some (.ref 0), some (.int (nI j)), some (.int w), some (.ref a)]) (st' := [.int (nI j), .ref a]) (h' := h) (fun _ => rfl) ?_
    refine rt_cvE (v := some (.ref b)) (h' := h) rfl (by decide) a1 rfl rfl rfl rfl ?_ ?_
    · refine rt_k (k := 1) (pc' := 1) (L' := [some (.ref a), some (.int (nI j))]) (st' := [.ref a]) (h' := h) (fun _ => rfl) ?_
      refine rt_gf rfl a1 rfl rfl ?_
      refine rt_k (k := 1) (pc' := 5) (L' := [some (.ref a), some (.int (nI j))]) (st' := [.int (nI j), .ref od]) (h' := h) (fun _ => rfl) ?_
      refine rt_aalN rfl a2 rfl (by omega) (by omega) fb ?_
      exact rt_r (v := some (.ref b)) rfl rfl ⟨rfl, rfl⟩
    refine rt_gf rfl cb rfl rfl ?_
    refine rt_k (k := 1) (pc' := 54) (L' := [some (.ref 0), some (.int (nI j)), some (.int w), some (.ref a)]) (st' := [.int (nI (lNo e.1))]) (h' := h) (fun _ => rfl) ?_
    exact rt_r (v := some (.int (nI (lNo e.1)))) rfl rfl (⟨rfl, Or.inr (Or.inr ⟨j, e, rfl, he, Or.inl ⟨z3, rfl⟩⟩)⟩)
  refine rt_k (k := 1) (pc' := 1) (L' := [some (.ref 0), some (.int k), some (.int w), none]) (st' := [.int w]) (h' := h) (fun _ => rfl) ?_
  refine rt_qe rfl (fun z => ?_) (fun z => ?_)
  ·
    exact body (Or.inl z)
  refine rt_k (k := 2) (pc' := 6) (L' := [some (.ref 0), some (.int k), some (.int w), none]) (st' := [.int (nI 1), .int w]) (h' := h) (fun _ => rfl) ?_
  refine rt_jeq rfl (fun z2 => ?_) (fun z2 => ?_)
  ·
    exact body (Or.inr z2)
  refine rt_k (k := 1) (pc' := 10) (L' := [some (.ref 0), some (.int k), some (.int w), none]) (st' := [.int (-1)]) (h' := h) (fun _ => rfl) ?_
  exact rt_r (v := some (.int (-1))) rfl rfl (⟨rfl, Or.inl ⟨z, z2, rfl⟩⟩)
def stpP (st : kS) (k w : Int32) (v : Option Value) : Prop := (¬ w = 0 ∧ ¬ w = 1 ∧ v = some (.int (-1))) ∨ ((w = 0 ∨ w = 1) ∧ (k < 0 ∨ ¬ k < nI st.length) ∧ v = some (.int (-2))) ∨ (∃ (j : Nat) (e : Nat × Nat), k = nI j ∧ st[j]? = some e ∧ ((w = 0 ∧ v = some (.int (nI e.1))) ∨ (w = 1 ∧ v = some (.int (nI e.2)))))
theorem kp_step (K0 : pk0 h) (CH : cH h K made st) (k w : Int32) : rt_ X (d + 2) 115 0 [some (.ref 0), some (.int k), some (.int w)] [] h (fun v h' => h' = h ∧ stpP st k w v) := by
  obtain ⟨F, hC0, k1, k4, hm6, HK⟩ := id CH
  obtain ⟨SN, SC, c14, c15, c16, c17, hl, HS⟩ := id hC0
  have body : (w = 0 ∨ w = 1) → rt_ X (d + 2) 115 11 [some (.ref 0), some (.int k), some (.int w)] [] h (fun v h' => h' = h ∧ stpP st k w v) := fun hw => by
    refine rt_k (k := 1) (pc' := 12) (L' := [some (.ref 0), some (.int k), some (.int w)]) (st' := [.int k]) (h' := h) (fun _ => rfl) ?_
    refine rt_qlt rfl (fun z => ?_) (fun z => ?_)
    ·
      refine rt_k (k := 1) (pc' := 28) (L' := [some (.ref 0), some (.int k), some (.int w)]) (st' := [.int (-2)]) (h' := h) (fun _ => rfl) ?_
      exact rt_r (v := some (.int (-2))) rfl rfl (⟨rfl, Or.inr (Or.inl ⟨hw, Or.inl z, rfl⟩)⟩)
    refine rt_k (k := 2) (pc' := 17) (L' := [some (.ref 0), some (.int k), some (.int w)]) (st' := [.ref 0, .int k]) (h' := h) (fun _ => rfl) ?_
    refine rt_gf rfl K0 rfl rfl ?_
    refine rt_cvE (v := some (.int (nI st.length))) (h' := h) rfl (by decide) c14 rfl rfl rfl rfl ?_ ?_
    · refine rt_k (k := 1) (pc' := 1) (L' := [some (.ref 14)]) (st' := [.ref 14]) (h' := h) (fun _ => rfl) ?_
      refine rt_gf rfl c14 rfl rfl ?_
      exact rt_r (v := some (.int (nI st.length))) rfl rfl ⟨rfl, rfl⟩
    refine rt_jlt rfl (fun z2 => ?_) (fun z2 => ?_)
    rotate_left
    ·
      refine rt_k (k := 1) (pc' := 28) (L' := [some (.ref 0), some (.int k), some (.int w)]) (st' := [.int (-2)]) (h' := h) (fun _ => rfl) ?_
      exact rt_r (v := some (.int (-2))) rfl rfl (⟨rfl, Or.inr (Or.inl ⟨hw, Or.inr z2, rfl⟩)⟩)
    obtain ⟨j, hj, rfl⟩ := i32_nat z z2 (by omega)
    obtain ⟨e, he⟩ := gt_ex hj
    obtain ⟨s1, s2⟩ := HS j e he
    refine rt_k (k := 1) (pc' := 30) (L' := [some (.ref 0), some (.int (nI j)), some (.int w)]) (st' := [.int w]) (h' := h) (fun _ => rfl) ?_
    refine rt_qn rfl (fun z3 => ?_) (fun z3 => ?_)
    ·
      refine rt_k (k := 1) (pc' := 45) (L' := [some (.ref 0), some (.int (nI j)), some (.int w)]) (st' := [.ref 0]) (h' := h) (fun _ => rfl) ?_
      refine rt_gf rfl K0 rfl rfl ?_
      refine rt_k (k := 1) (pc' := 49) (L' := [some (.ref 0), some (.int (nI j)), some (.int w)]) (st' := [.int (nI j), .ref 14]) (h' := h) (fun _ => rfl) ?_
      refine rt_cvE (v := some (.int (nI e.2))) (h' := h) rfl (by decide) c14 rfl rfl rfl rfl ?_ ?_
      · refine rt_k (k := 1) (pc' := 1) (L' := [some (.ref 14), some (.int (nI j))]) (st' := [.ref 14]) (h' := h) (fun _ => rfl) ?_
        refine rt_gf rfl c14 rfl rfl ?_
        refine rt_k (k := 1) (pc' := 5) (L' := [some (.ref 14), some (.int (nI j))]) (st' := [.int (nI j), .ref 17]) (h' := h) (fun _ => rfl) ?_
        refine rt_ialN rfl c17 rfl (by omega) (by decide) s2 ?_
        exact rt_r (v := some (.int (nI e.2))) rfl rfl ⟨rfl, rfl⟩
      exact rt_r (v := some (.int (nI e.2))) rfl rfl (⟨rfl, Or.inr (Or.inr ⟨j, e, rfl, he, Or.inr ⟨hw.resolve_left z3, rfl⟩⟩)⟩)
    refine rt_k (k := 1) (pc' := 34) (L' := [some (.ref 0), some (.int (nI j)), some (.int w)]) (st' := [.ref 0]) (h' := h) (fun _ => rfl) ?_
    refine rt_gf rfl K0 rfl rfl ?_
    refine rt_k (k := 1) (pc' := 38) (L' := [some (.ref 0), some (.int (nI j)), some (.int w)]) (st' := [.int (nI j), .ref 14]) (h' := h) (fun _ => rfl) ?_
    refine rt_cvE (v := some (.int (nI e.1))) (h' := h) rfl (by decide) c14 rfl rfl rfl rfl ?_ ?_
    · refine rt_k (k := 1) (pc' := 1) (L' := [some (.ref 14), some (.int (nI j))]) (st' := [.ref 14]) (h' := h) (fun _ => rfl) ?_
      refine rt_gf rfl c14 rfl rfl ?_
      refine rt_k (k := 1) (pc' := 5) (L' := [some (.ref 14), some (.int (nI j))]) (st' := [.int (nI j), .ref 16]) (h' := h) (fun _ => rfl) ?_
      refine rt_ialN rfl c16 rfl (by omega) (by decide) s1 ?_
      exact rt_r (v := some (.int (nI e.1))) rfl rfl ⟨rfl, rfl⟩
    refine rt_k (k := 1) (pc' := 52) (L' := [some (.ref 0), some (.int (nI j)), some (.int w)]) (st' := [.int (nI e.1)]) (h' := h) (fun _ => rfl) ?_
    exact rt_r (v := some (.int (nI e.1))) rfl rfl (⟨rfl, Or.inr (Or.inr ⟨j, e, rfl, he, Or.inl ⟨z3, rfl⟩⟩)⟩)
  refine rt_k (k := 1) (pc' := 1) (L' := [some (.ref 0), some (.int k), some (.int w)]) (st' := [.int w]) (h' := h) (fun _ => rfl) ?_
  refine rt_qe rfl (fun z => ?_) (fun z => ?_)
  ·
    exact body (Or.inl z)
  refine rt_k (k := 2) (pc' := 6) (L' := [some (.ref 0), some (.int k), some (.int w)]) (st' := [.int (nI 1), .int w]) (h' := h) (fun _ => rfl) ?_
  refine rt_jeq rfl (fun z2 => ?_) (fun z2 => ?_)
  ·
    exact body (Or.inr z2)
  refine rt_k (k := 1) (pc' := 10) (L' := [some (.ref 0), some (.int k), some (.int w)]) (st' := [.int (-1)]) (h' := h) (fun _ => rfl) ?_
  exact rt_r (v := some (.int (-1))) rfl rfl (⟨rfl, Or.inl ⟨z, z2, rfl⟩⟩)
theorem pkL_pre {I : List kL} {fo : Nat → Prop} {i n : Nat} (h : i ≤ n) : ∃ t, pkL I fo n = pkL I fo i ++ t := by
  induction h with
  | refl => exact ⟨[], (List.append_nil _).symm⟩
  | step _ ih =>
    obtain ⟨t, e⟩ := ih
    exact ⟨_, by rw [pkL, e, List.append_assoc]⟩
theorem pkL_at {I : List kL} {fo : Nat → Prop} {i : Nat} {r : kL} (hr : I[i]? = some r) (h : fo i) : (pkL I fo I.length)[crd fo i]? = some r := by
  have hi := gt_lt hr
  obtain ⟨t, e⟩ := pkL_pre (I := I) (fo := fo) (show i + 1 ≤ I.length by omega)
  have hl := pkL_len (fo := fo) i (Nat.le_of_lt hi)
  rw [e, pkL_t hr h, List.append_assoc, List.getElem?_append_right (by omega), hl, Nat.sub_self]
  rfl
def bstQ (I : List kL) (fo : Nat → Prop) (k : Int32) (v : Option Value) : Prop := (∃ (j : Nat) (r : kL), k = nI j ∧ (pkL I fo I.length)[j]? = some r ∧ v = some (.int (nI (lNo r)))) ∨ ((∀ j, j < (pkL I fo I.length).length → ¬ k = nI j) ∧ v = some (.int (-2)))
theorem bst_lp {fo : Nat → Prop} (K0 : pk0 h) (CI : cI h I nx) (k : Int32) (i : Nat) (hi : i ≤ I.length) (H : ∀ j, j < crd fo i → ¬ k = nI j) : rt_ X (d + 1) 111 48 [some (.ref 0), some (.int k), some (.int (msk fo)), some (.int (nI (crd fo i))), some (.int (nI i))] [] h (fun v h' => bstQ I fo k v ∧ h' = h) := by
  obtain ⟨F0, d4, d5, hn, -, HI⟩ := id CI
  refine rt_k (k := 2) (pc' := 51) (L' := [some (.ref 0), some (.int k), some (.int (msk fo)), some (.int (nI (crd fo i))), some (.int (nI i))]) (st' := [.ref 0, .int (nI i)]) (h' := h) (fun _ => rfl) ?_
  refine rt_gf rfl K0 rfl rfl ?_
  refine rt_cvE (v := some (.int (nI I.length))) (h' := h) rfl (by decide) d4 rfl rfl rfl rfl ?_ ?_
  · refine rt_k (k := 1) (pc' := 1) (L' := [some (.ref 4)]) (st' := [.ref 4]) (h' := h) (fun _ => rfl) ?_
    refine rt_gf rfl d4 rfl rfl ?_
    exact rt_r (v := some (.int (nI I.length))) rfl rfl ⟨rfl, rfl⟩
  refine rt_ige rfl (by omega) (by omega) (fun z => ?_) (fun z => ?_)
  ·
    have e9 : i = I.length := by omega
    refine rt_k (k := 1) (pc' := 98) (L' := [some (.ref 0), some (.int k), some (.int (msk fo)), some (.int (nI (crd fo i))), some (.int (nI i))]) (st' := [.int (-2)]) (h' := h) (fun _ => rfl) ?_
    exact rt_r (v := some (.int (-2))) rfl rfl (⟨Or.inr ⟨fun j hj => H j (by rw [pkL_len _ (Nat.le_refl _)] at hj; rw [e9]; exact hj), rfl⟩, rfl⟩)
  obtain ⟨r, hr⟩ := gt_ex z
  obtain ⟨a, fa, za⟩ := HI i r hr
  obtain ⟨v, nd, bk, ps, ca, -⟩ := za.at
  refine rt_k (k := 2) (pc' := 63) (L' := [some (.ref 0), some (.int k), some (.int (msk fo)), some (.int (nI (crd fo i))), some (.int (nI i))]) (st' := [.int (nI i), .int (msk fo)]) (h' := h) (fun _ => rfl) ?_
  refine rt_cE rfl rfl (isin (by omega) fo) ?_
  refine rt_pe rfl (fun z1 => ?_) (fun z1 => ?_)
  ·
    refine rt_inc (c := 1) rfl rfl ?_
    refine rt_k (k := 1) (pc' := 48) (L' := [some (.ref 0), some (.int k), some (.int (msk fo)), some (.int (nI (crd fo i))), some (.int (nI (i + 1)))]) (st' := []) (h' := h) (fun _ => rfl) ?_
    rw [← crd_f z1] at H ⊢
    exact bst_lp K0 CI k (i + 1) z H
  refine rt_k (k := 2) (pc' := 71) (L' := [some (.ref 0), some (.int k), some (.int (msk fo)), some (.int (nI (crd fo i))), some (.int (nI i))]) (st' := [.int k, .int (nI (crd fo i))]) (h' := h) (fun _ => rfl) ?_
  refine rt_jne rfl (fun z2 => ?_) (fun z2 => ?_)
  rotate_left
  ·
    refine rt_k (k := 1) (pc' := 75) (L' := [some (.ref 0), some (.int k), some (.int (msk fo)), some (.int (nI (crd fo i))), some (.int (nI i))]) (st' := [.ref 0]) (h' := h) (fun _ => rfl) ?_
    refine rt_gf rfl K0 rfl rfl ?_
    refine rt_k (k := 1) (pc' := 80) (L' := [some (.ref 0), some (.int k), some (.int (msk fo)), some (.int (nI (crd fo i))), some (.int (nI i))]) (st' := [.int (nI i), .ref 4]) (h' := h) (fun _ => rfl) ?_
    refine rt_cvE (v := some (.ref a)) (h' := h) rfl (by decide) d4 rfl rfl rfl rfl ?_ ?_
    · refine rt_k (k := 1) (pc' := 1) (L' := [some (.ref 4), some (.int (nI i))]) (st' := [.ref 4]) (h' := h) (fun _ => rfl) ?_
      refine rt_gf rfl d4 rfl rfl ?_
      refine rt_k (k := 1) (pc' := 5) (L' := [some (.ref 4), some (.int (nI i))]) (st' := [.int (nI i), .ref 5]) (h' := h) (fun _ => rfl) ?_
      refine rt_aalN rfl d5 rfl (by omega) (by decide) fa ?_
      exact rt_r (v := some (.ref a)) rfl rfl ⟨rfl, rfl⟩
    refine rt_gf rfl ca rfl rfl ?_
    exact rt_r (v := some (.int (nI (lNo r)))) rfl rfl (⟨Or.inl ⟨crd fo i, r, z2.symm, pkL_at hr z1, rfl⟩, rfl⟩)
  refine rt_inc (c := 1) rfl rfl ?_
  refine rt_inc (c := 1) rfl rfl ?_
  refine rt_k (k := 1) (pc' := 48) (L' := [some (.ref 0), some (.int k), some (.int (msk fo)), some (.int (nI (crd fo i + 1))), some (.int (nI (i + 1)))]) (st' := []) (h' := h) (fun _ => rfl) ?_
  rw [← crd_t z1]
  exact bst_lp K0 CI k (i + 1) z (fun j hj => by
    rw [crd_t z1] at hj
    by_cases e : j = crd fo i
    · subst e; exact fun w => z2 w.symm
    · exact H j (by omega))
termination_by I.length - i
def bstP (I : List kL) (D : kD) (k : Int32) (v : Option Value) : Prop := ∃ gn riv ned rg op li so fo, lSS I D gn riv ned rg op li so fo ∧ (((k < -1 ∨ ¬ so) ∧ v = some (.int (-2))) ∨ (¬ k < -1 ∧ so ∧ ((k = -1 ∧ v = some (.int (nI (crd fo 32)))) ∨ (¬ k = -1 ∧ bstQ I fo k v))))
theorem kp_best (BC : ∀ (X : Nat × (Nat → Int32)) (d : Nat) (h : List va_E) (p : Nat → Prop), rt_ X d 112 0 [some (.int (msk p))] [] h (fun v h' => v = some (.int (nI (crd p 32))) ∧ h' = h)) (K0 : pk0 h) (CI : cI h I nx) (CR : cR h D) (h8 : nbn I I.length ≤ 8) (S : cSo h I D) (k : Int32) : rt_ X (d + 21) 111 0 [some (.ref 0), some (.int k), none, none, none] [] h (fun v h' => fr_ sB h h' ∧ (∃ so fo, sL h' I D so fo) ∧ bstP I D k v) := by
  obtain ⟨le, sz, -⟩ := id S
  obtain ⟨G0, rg0, op0, li0, so0, fo0, M0, N0, R0, E0, c9, -⟩ := id sz
  refine rt_k (k := 1) (pc' := 1) (L' := [some (.ref 0), some (.int k), none, none, none]) (st' := [.ref 0]) (h' := h) (fun _ => rfl) ?_
  refine rt_gf rfl K0 rfl rfl ?_
  refine rt_cv rfl (by decide) c9 rfl rfl rfl rfl (so_lrn CI CR h8 S) ?_
  rintro _ h1 ⟨rfl, f1, so, fo, L1⟩
  have K1 : pk0 h1 := fr_at f1 (by unfold sB; omega) K0
  have CI1 := CI.fm f1 (by decide) (by decide) sB_zz
  obtain ⟨gn, riv, ned, rg, op, li, C1, sp⟩ := id L1
  obtain ⟨M, N, R, E, nx', e9, -⟩ := id C1
  refine rt_k (k := 2) (pc' := 9) (L' := [some (.ref 0), some (.int k), none, none, none]) (st' := [.int (-1), .int k]) (h' := h1) (fun _ => rfl) ?_
  refine rt_jlt rfl (fun z => ?_) (fun z => ?_)
  ·
    refine rt_k (k := 1) (pc' := 24) (L' := [some (.ref 0), some (.int k), none, none, none]) (st' := [.int (-2)]) (h' := h1) (fun _ => rfl) ?_
    exact rt_r (v := some (.int (-2))) rfl rfl (⟨f1, ⟨so, fo, L1⟩, gn, riv, ned, rg, op, li, so, fo, sp, Or.inl ⟨Or.inl z, rfl⟩⟩)
  refine rt_k (k := 1) (pc' := 13) (L' := [some (.ref 0), some (.int k), none, none, none]) (st' := [.ref 0]) (h' := h1) (fun _ => rfl) ?_
  refine rt_gf rfl K1 rfl rfl ?_
  refine rt_cvE (v := some (.int (tB so))) (h' := h1) rfl (by decide) e9 rfl rfl rfl rfl ?_ ?_
  · refine rt_k (k := 1) (pc' := 1) (L' := [some (.ref 9)]) (st' := [.ref 9]) (h' := h1) (fun _ => rfl) ?_
    refine rt_gf rfl e9 rfl rfl ?_
    exact rt_r (v := some (.int (tB so))) rfl (rtT rfl rfl) ⟨rfl, rfl⟩
  refine rt_pn rfl (fun z2 => ?_) (fun z2 => ?_)
  rotate_left
  ·
    refine rt_k (k := 1) (pc' := 24) (L' := [some (.ref 0), some (.int k), none, none, none]) (st' := [.int (-2)]) (h' := h1) (fun _ => rfl) ?_
    exact rt_r (v := some (.int (-2))) rfl rfl (⟨f1, ⟨so, fo, L1⟩, gn, riv, ned, rg, op, li, so, fo, sp, Or.inl ⟨Or.inr z2, rfl⟩⟩)
  refine rt_k (k := 1) (pc' := 26) (L' := [some (.ref 0), some (.int k), none, none, none]) (st' := [.ref 0]) (h' := h1) (fun _ => rfl) ?_
  refine rt_gf rfl K1 rfl rfl ?_
  refine rt_cvE (v := some (.int (msk fo))) (h' := h1) rfl (by decide) e9 rfl rfl rfl rfl ?_ ?_
  · refine rt_k (k := 1) (pc' := 1) (L' := [some (.ref 9)]) (st' := [.ref 9]) (h' := h1) (fun _ => rfl) ?_
    refine rt_gf rfl e9 rfl rfl ?_
    exact rt_r (v := some (.int (msk fo))) rfl rfl ⟨rfl, rfl⟩
  refine rt_k (k := 3) (pc' := 35) (L' := [some (.ref 0), some (.int k), some (.int (msk fo)), none, none]) (st' := [.int (-1), .int k]) (h' := h1) (fun _ => rfl) ?_
  refine rt_jne rfl (fun z3 => ?_) (fun z3 => ?_)
  rotate_left
  ·
    refine rt_k (k := 1) (pc' := 39) (L' := [some (.ref 0), some (.int k), some (.int (msk fo)), none, none]) (st' := [.int (msk fo)]) (h' := h1) (fun _ => rfl) ?_
    refine rt_cE rfl rfl (BC X (d + 20) h1 fo) ?_
    exact rt_r (v := some (.int (nI (crd fo 32)))) rfl rfl (⟨f1, ⟨so, fo, L1⟩, gn, riv, ned, rg, op, li, so, fo, sp, Or.inr ⟨z, z2, Or.inl ⟨z3, rfl⟩⟩⟩)
  refine rt_k (k := 4) (pc' := 48) (L' := [some (.ref 0), some (.int k), some (.int (msk fo)), some (.int (nI (crd fo 0))), some (.int (nI 0))]) (st' := []) (h' := h1) (fun _ => rfl) ?_
  refine rt_w (bst_lp (d := d + 20) K1 CI1 k 0 (Nat.zero_le _) (fun j hj => absurd hj (Nat.not_lt_zero _))) ?_
  rintro v h2 ⟨q1, rfl⟩
  exact ⟨f1, ⟨so, fo, L1⟩, gn, riv, ned, rg, op, li, so, fo, sp, Or.inr ⟨z, z2, Or.inr ⟨z3, q1⟩⟩⟩
end KE

