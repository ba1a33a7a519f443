/-! THE PURE MACHINE, 8: rules for steps over a heap of which some cells are known. -/
section RT8H
variable {X : Nat × (Nat → Int32)} {d M pc r : Nat} {L : ab_Lo} {st : List Value} {h : List va_E} {Q : Option Value → List va_E → Prop}
theorem rt_s1 {i : Instr} {pc' : Nat} {L' : ab_Lo} {st' : List Value} {h' : List va_E} (hi : ab_k (tb_il M) pc = some (i, r)) (hx : ab_x X r pc i L st h = some (.inl (pc', L', st', h'))) (k : rt_ X d M pc' L' st' h' Q) : rt_ X d M pc L st h Q :=
  rt_n (by unfold ab_s; rw [hi]; exact hx) k
theorem rt_gf {idx a ci : Nat} {fs : List Value} {v : Value} (hi : ab_k (tb_il M) pc = some (.getfield idx, r)) (ha : h[a]? = some (.inr (ci, fs))) (hc : ci = r / 64) (hv : fs[r % 64]? = some v) (k : rt_ X d M (pc + 3) L (v :: st) h Q) : rt_ X d M pc L (.ref a :: st) h Q :=
  rt_s1 hi (by simp only [ab_x, ab_n, ha]; rw [if_pos hc]; simp only [hv]) k
theorem rt_pf {idx a ci : Nat} {fs : List Value} {v : Value} (hi : ab_k (tb_il M) pc = some (.putfield idx, r)) (ha : h[a]? = some (.inr (ci, fs))) (hc : ci = r / 64 ∧ r % 64 < fs.length ∧ ab_f (tb_ft (r / 64) (r % 64)) v = true) (k : rt_ X d M (pc + 3) L st (h.set a (.inr (ci, fs.set (r % 64) v))) Q) : rt_ X d M pc L (v :: .ref a :: st) h Q :=
  rt_s1 hi (by simp only [ab_x, ab_n, ha]; rw [if_pos hc]) k
theorem rt_aln {a t n : Nat} {x : ab_A} (hi : ab_k (tb_il M) pc = some (.arraylength, r)) (ha : h[a]? = some (.inl (t, n, x))) (ht : t < tb_at.length) (k : rt_ X d M (pc + 1) L (.int (Int32.ofNat n) :: st) h Q) : rt_ X d M pc L (.ref a :: st) h Q :=
  rt_s1 hi (by simp only [ab_x, ab_n, ha]; rw [if_pos ht]) k
theorem rt_ial {a t n : Nat} {f : Nat → Int32} {i : Int32} (hi : ab_k (tb_il M) pc = some (.iaload, r)) (ha : h[a]? = some (.inl (t, n, .inl f))) (ht : tb_at[t]? = some .int) (hx : ab_ix i n = false) (k : rt_ X d M (pc + 1) L (.int (f i.toNatClampNeg) :: st) h Q) : rt_ X d M pc L (.int i :: .ref a :: st) h Q :=
  rt_s1 hi (by simp only [ab_x, ab_n, ha]; rw [if_pos ⟨ht, hx⟩]) k
theorem rt_cal {a t n : Nat} {f : Nat → Int32} {i : Int32} (hi : ab_k (tb_il M) pc = some (.caload, r)) (ha : h[a]? = some (.inl (t, n, .inl f))) (ht : tb_at[t]? = some .char) (hx : ab_ix i n = false) (k : rt_ X d M (pc + 1) L (.int (f i.toNatClampNeg) :: st) h Q) : rt_ X d M pc L (.int i :: .ref a :: st) h Q :=
  rt_s1 hi (by simp only [ab_x, ab_n, ha]; rw [if_pos ⟨ht, hx⟩]) k
theorem rt_lal {a t n : Nat} {f : Nat → Int64} {i : Int32} (hi : ab_k (tb_il M) pc = some (.laload, r)) (ha : h[a]? = some (.inl (t, n, .inr (.inl f)))) (ht : tb_at[t]? = some .long) (hx : ab_ix i n = false) (k : rt_ X d M (pc + 1) L (.long (f i.toNatClampNeg) :: st) h Q) : rt_ X d M pc L (.int i :: .ref a :: st) h Q :=
  rt_s1 hi (by simp only [ab_x, ab_n, ha]; rw [if_pos ⟨ht, hx⟩]) k
theorem rt_zal {a t n : Nat} {f : Nat → Int32} {i : Int32} (hi : ab_k (tb_il M) pc = some (.baload, r)) (ha : h[a]? = some (.inl (t, n, .inl f))) (ht : tb_at[t]? = some .boolean) (hx : ab_ix i n = false) (k : rt_ X d M (pc + 1) L (.int (f i.toNatClampNeg) :: st) h Q) : rt_ X d M pc L (.int i :: .ref a :: st) h Q :=
  rt_s1 hi (by simp only [ab_x, ab_n, ha]; rw [if_pos ⟨ht, hx⟩]) k
theorem rt_aal {a t n : Nat} {f : Nat → Option Nat} {i : Int32} (hi : ab_k (tb_il M) pc = some (.aaload, r)) (ha : h[a]? = some (.inl (t, n, .inr (.inr (.inr (.inr f)))))) (ht : ab_ro t = true) (hx : ab_ix i n = false) (k : rt_ X d M (pc + 1) L (ab_w (f i.toNatClampNeg) :: st) h Q) : rt_ X d M pc L (.int i :: .ref a :: st) h Q :=
  rt_s1 hi (by simp only [ab_x, ab_n, ha]; rw [if_pos ⟨ht, hx⟩]) k
theorem rt_ias {a t n : Nat} {f : Nat → Int32} {i : Int32} {x : Int32} (hi : ab_k (tb_il M) pc = some (.iastore, r)) (ha : h[a]? = some (.inl (t, n, .inl f))) (ht : tb_at[t]? = some .int) (hx : ab_ix i n = false) (k : rt_ X d M (pc + 1) L st (h.set a (.inl (t, n, .inl (upd f i.toNatClampNeg x)))) Q) : rt_ X d M pc L (.int x :: .int i :: .ref a :: st) h Q :=
  rt_s1 hi (by simp only [ab_x, ab_n, ha]; rw [if_pos ⟨ht, hx⟩]) k
theorem rt_cas {a t n : Nat} {f : Nat → Int32} {i : Int32} {x : Int32} (hi : ab_k (tb_il M) pc = some (.castore, r)) (ha : h[a]? = some (.inl (t, n, .inl f))) (ht : tb_at[t]? = some .char) (hx : ab_ix i n = false) (k : rt_ X d M (pc + 1) L st (h.set a (.inl (t, n, .inl (upd f i.toNatClampNeg (vp_nar .char x))))) Q) : rt_ X d M pc L (.int x :: .int i :: .ref a :: st) h Q :=
  rt_s1 hi (by simp only [ab_x, ab_n, ha]; rw [if_pos ⟨ht, hx⟩]) k
theorem rt_las {a t n : Nat} {f : Nat → Int64} {i : Int32} {x : Int64} (hi : ab_k (tb_il M) pc = some (.lastore, r)) (ha : h[a]? = some (.inl (t, n, .inr (.inl f)))) (ht : tb_at[t]? = some .long) (hx : ab_ix i n = false) (k : rt_ X d M (pc + 1) L st (h.set a (.inl (t, n, .inr (.inl (vp_updL f i.toNatClampNeg x))))) Q) : rt_ X d M pc L (.long x :: .int i :: .ref a :: st) h Q :=
  rt_s1 hi (by simp only [ab_x, ab_n, ha]; rw [if_pos ⟨ht, hx⟩]) k
theorem rt_zas {a t n : Nat} {f : Nat → Int32} {i : Int32} {x : Int32} (hi : ab_k (tb_il M) pc = some (.bastore, r)) (ha : h[a]? = some (.inl (t, n, .inl f))) (ht : tb_at[t]? = some .boolean) (hx : ab_ix i n = false) (k : rt_ X d M (pc + 1) L st (h.set a (.inl (t, n, .inl (upd f i.toNatClampNeg (vp_nar .boolean x))))) Q) : rt_ X d M pc L (.int x :: .int i :: .ref a :: st) h Q :=
  rt_s1 hi (by simp only [ab_x, ab_n, ha]; rw [if_pos ⟨ht, hx⟩]) k
theorem rt_aas {a v t n ci : Nat} {vs : List Value} {f : Nat → Option Nat} {i : Int32} (hi : ab_k (tb_il M) pc = some (.aastore, r)) (ha : h[a]? = some (.inl (t, n, .inr (.inr (.inr (.inr f)))))) (hv : h[v]? = some (.inr (ci, vs))) (ht : tb_at[t]? = (tb_cl[ci]?).map (fun q => FieldType.object q.1) ∧ ab_ro t = true) (hx : ab_ix i n = false) (k : rt_ X d M (pc + 1) L st (h.set a (.inl (t, n, .inr (.inr (.inr (.inr (va_up f i.toNatClampNeg (some v)))))))) Q) : rt_ X d M pc L (.ref v :: .int i :: .ref a :: st) h Q :=
  rt_s1 hi (by simp only [ab_x, ab_n, ha, hv]; rw [if_pos ⟨ht.1, ht.2, hx⟩]) k
theorem rt_aaN {a t n : Nat} {f : Nat → Option Nat} {i : Int32} (hi : ab_k (tb_il M) pc = some (.aastore, r)) (ha : h[a]? = some (.inl (t, n, .inr (.inr (.inr (.inr f)))))) (ht : ab_ro t = true) (hx : ab_ix i n = false) (k : rt_ X d M (pc + 1) L st (h.set a (.inl (t, n, .inr (.inr (.inr (.inr (va_up f i.toNatClampNeg none))))))) Q) : rt_ X d M pc L (.null :: .int i :: .ref a :: st) h Q :=
  rt_s1 hi (by simp only [ab_x, ab_n, ha]; rw [if_pos ⟨ht, hx⟩]) k
/-- an object's method that is called: its receiver is known -/
theorem rt_cv {idx a ci : Nat} {fs : List Value} {as rest : List Value} {P : Option Value → List va_E → Prop} (hi : ab_k (tb_il M) pc = some (.invokevirtual idx, r)) (h8 : ¬ (r = 8888 ∨ tb_st r = true)) (ha : h[a]? = some (.inr (ci, fs))) (hc : ci = tb_oc r) (hd : st.drop (tb_np r) = .ref a :: rest) (has : .ref a :: (st.take (tb_np r)).reverse = as) (hk : ab_cok r as rest = true) (k1 : rt_ X d r 0 (ab_en as ++ List.replicate (tb_max r - (ab_en as).length) none) [] h P) (k2 : ∀ v h', P v h' → rt_ X (d + 1) M (pc + 3) L (v.toList ++ rest) h' Q) : rt_ X (d + 1) M pc L st h Q :=
  rt_c (by unfold ab_s; rw [hi]; simp only [ab_x]; rw [if_neg h8]; simp only [hd, ha]; rw [if_pos hc, has]) hk k1 k2
end RT8H
/-! TAPE: a tape at t with its row at q holds the bytes T. -/
def tp_ (h : List va_E) (t q : Nat) (T : List Nat) : Prop := h[t]? = some (.inr (1, [.ref q, .int (nI T.length)])) ∧ (∃ f : Nat → Int32, h[q]? = some (.inl (0, 400, .inl f)) ∧ ∀ j, j < T.length → f j = nI (T.getD j 0)) ∧ T.length ≤ 400 ∧ ∀ c ∈ T, c < 256
/-- the byte at a place, a blank where there is none -/
def tp_c (T : List Nat) (i : Int32) : Nat := if 0 ≤ i.toInt ∧ i.toInt < T.length then T.getD i.toInt.toNat 0 else 32
theorem tp_ch {c : Nat} (hc : c < 65536) : ab_f .char (.int (nI c)) = true := by
  have h1 : (0 : Int32) ≤ nI c := nI_pos' (by omega)
  have h2 : nI c ≤ (65535 : Int32) := nI_le (a := c) (b := 65535) (by omega) (by omega)
  show (decide (0 ≤ nI c) && decide (nI c ≤ 65535)) = true
  rw [decide_eq_true h1, decide_eq_true h2]
  rfl
theorem tp_ix {j n : Nat} (h : j < n) (hn : n ≤ 1000000) : ab_ix (nI j) n = false := by
  have h1 : ¬ nI j < 0 := nI_pos (by omega)
  have h2 : ¬ n ≤ (nI j).toNatClampNeg := by rw [nI_clamp (by omega)]; omega
  unfold ab_ix
  rw [decide_eq_false h1, decide_eq_false h2]
  rfl
theorem tp_size {X : Nat × (Nat → Int32)} {d t q : Nat} {T : List Nat} {h : List va_E} (P : tp_ h t q T) : rt_ X d 16 0 [some (.ref t)] [] h (fun v h' => v = some (.int (nI T.length)) ∧ h' = h) := by
  refine rt_n rfl ?_
  refine rt_gf rfl P.1 rfl rfl ?_
  exact rt_r (v := some (.int (nI T.length))) rfl rfl ⟨rfl, rfl⟩
theorem tp_cut {X : Nat × (Nat → Int32)} {d t q : Nat} {T : List Nat} {h : List va_E} (P : tp_ h t q T) (m : Int32) : rt_ X d 18 0 [some (.ref t), some (.int m)] [] h (fun v h' => v = none ∧ h' = h.set t (.inr (1, [.ref q, .int m]))) := by
  refine rt_n rfl ?_
  refine rt_n rfl ?_
  refine rt_pf rfl P.1 ⟨rfl, (show 1 < 2 by decide), rfl⟩ ?_
  exact rt_r (v := none) rfl rfl ⟨rfl, rfl⟩
theorem tp_room {X : Nat × (Nat → Int32)} {d t q : Nat} {T : List Nat} {h : List va_E} (P : tp_ h t q T) : rt_ X d 14 0 [some (.ref t), some (.int 20)] [] h (fun v h' => v = some (.int (if T.length + 20 ≤ 400 then 1 else 0)) ∧ h' = h) := by
  refine rt_n rfl ?_
  refine rt_gf rfl P.1 rfl rfl ?_
  refine rt_n rfl ?_
  refine rt_n rfl ?_
  refine rt_n rfl ?_
  have hn := P.2.2.1
  refine rt_ic rfl (fun h1 => ?_) (fun h1 => ?_)
  · have h2 : ¬ T.length + 20 ≤ 400 := by
      intro z
      have h3 : (nI 400 : Int32) < nI T.length + nI 20 := of_decide_eq_true h1
      rw [nI_add, nI_ltI (by omega) (by omega)] at h3
      omega
    rw [if_neg h2]
    refine rt_n rfl ?_
    exact rt_r (v := some (.int 0)) rfl rfl ⟨rfl, rfl⟩
  · have h2 : T.length + 20 ≤ 400 := by
      have h3 : ¬ (nI 400 : Int32) < nI T.length + nI 20 := of_decide_eq_false h1
      rw [nI_add, nI_ltI (by omega) (by omega)] at h3
      omega
    rw [if_pos h2]
    refine rt_n rfl ?_
    refine rt_n rfl ?_
    exact rt_r (v := some (.int 1)) rfl rfl ⟨rfl, rfl⟩
theorem tp_at {X : Nat × (Nat → Int32)} {d t q : Nat} {T : List Nat} {h : List va_E} (P : tp_ h t q T) (i : Int32) : rt_ X d 22 0 [some (.ref t), some (.int i)] [] h (fun v h' => v = some (.int (nI (tp_c T i))) ∧ h' = h) := by
  obtain ⟨p1, ⟨f, p2, p3⟩, p4, p5⟩ := P
  have h32 : rt_ X d 22 21 [some (.ref t), some (.int i)] [] h (fun v h' => v = some (.int (nI 32)) ∧ h' = h) := by
    refine rt_n rfl ?_
    exact rt_r (v := some (.int (nI 32))) rfl rfl ⟨rfl, rfl⟩
  refine rt_n rfl ?_
  refine rt_if rfl (fun h1 => ?_) (fun h1 => ?_)
  · have h2 : i < 0 := of_decide_eq_true h1
    have hc : tp_c T i = 32 := by
      unfold tp_c
      rw [if_neg]
      have := Int32.lt_iff_toInt_lt.mp h2
      rw [show (0 : Int32).toInt = 0 by decide] at this
      omega
    rw [hc]
    exact h32
  · have h1' : ¬ i < 0 := of_decide_eq_false h1
    obtain ⟨j, hj, rfl⟩ := nI_of h1'
    refine rt_n rfl ?_
    refine rt_n rfl ?_
    refine rt_gf rfl p1 rfl rfl ?_
    refine rt_ic rfl (fun h2 => ?_) (fun h2 => ?_)
    · have h3 : nI T.length ≤ nI j := of_decide_eq_true h2
      rw [nI_leI (by omega) hj] at h3
      have hc : tp_c T (nI j) = 32 := by
        unfold tp_c
        rw [if_neg]
        rw [nI_toInt hj]
        omega
      rw [hc]
      exact h32
    · have h3 : ¬ nI T.length ≤ nI j := of_decide_eq_false h2
      rw [nI_leI (by omega) hj] at h3
      have hlt : j < T.length := by omega
      have hc : tp_c T (nI j) = T.getD j 0 := by
        unfold tp_c
        rw [nI_toInt hj, if_pos (by omega)]
        rfl
      have hb : T.getD j 0 < 256 := by
        rw [List.getD_eq_getElem?_getD, List.getElem?_eq_getElem hlt]
        exact p5 _ (List.getElem_mem hlt)
      rw [hc]
      refine rt_n rfl ?_
      refine rt_gf rfl p1 rfl rfl ?_
      refine rt_n rfl ?_
      refine rt_cal rfl p2 rfl (tp_ix (by omega) (by omega)) ?_
      rw [nI_clamp hj, p3 j hlt]
      refine rt_n rfl ?_
      exact rt_r (v := some (.int (nI (T.getD j 0)))) rfl (tp_ch (by omega)) ⟨rfl, rfl⟩
/-! WHAT A RUN LEAVES AS IT WAS. -/
def fr_ (A : Nat → Prop) (h h' : List va_E) : Prop := h'.length = h.length ∧ ab_sl tb_nf h' = ab_sl tb_nf h ∧ ∀ k, ¬ A k → h'[k]? = h[k]?
theorem fr_rf {A : Nat → Prop} {h : List va_E} : fr_ A h h := ⟨rfl, rfl, fun _ _ => rfl⟩
theorem fr_tr {A : Nat → Prop} {h h1 h2 : List va_E} (a : fr_ A h h1) (b : fr_ A h1 h2) : fr_ A h h2 := ⟨b.1.trans a.1, b.2.1.trans a.2.1, fun k hk => (b.2.2 k hk).trans (a.2.2 k hk)⟩
theorem fr_set {A : Nat → Prop} {h : List va_E} {i : Nat} {e e' : va_E} (hi : h[i]? = some e) (hz : ab_z tb_nf e' = ab_z tb_nf e) (ha : A i) : fr_ A h (h.set i e') :=
  ⟨List.length_set, ab_sl_set tb_nf h i e e' hi hz, fun k hk => List.getElem?_set_ne (fun z : i = k => hk (by rw [← z]; exact ha))⟩
theorem st_in_ {h : List va_E} {i : Nat} {e e' : va_E} (hi : h[i]? = some e) : (h.set i e')[i]? = some e' := List.getElem?_set_self (List.getElem?_eq_some_iff.mp hi).1
/-- the byte that goes to the tape -/
def tp_b (a s : Int32) : Nat := (a.toUInt32 >>> (s.toUInt32 &&& Int32.toUInt32 31)).toInt32.toBitVec.toNat % 256
theorem tp_b_lt (a s : Int32) : tp_b a s < 256 := Nat.mod_lt _ (by decide)
theorem tp_nar {c : Nat} (h : c < 65536) : vp_nar .char ((nI c).toUInt32 % 65536).toInt32 = nI c := by
  rw [pk_char, pk_tn (by omega), Nat.mod_eq_of_lt h]
  unfold vp_nar
  rw [(pk_charN h).1]
theorem tp_bv (a s : Int32) : vp_nar .char ((((a.toUInt32 >>> (s.toUInt32 &&& Int32.toUInt32 31)).toInt32 &&& 255).toUInt32 % 65536).toInt32) = nI (tp_b a s) := by
  rw [pk_and _ (m := 255) 8 (by decide)]
  exact tp_nar (Nat.lt_trans (tp_b_lt a s) (by decide))
theorem tp_app {T : List Nat} {c j : Nat} {f : Nat → Int32} (p3 : ∀ j, j < T.length → f j = nI (T.getD j 0)) (hj : j < (T ++ [c]).length) : upd f T.length (nI c) j = nI ((T ++ [c]).getD j 0) := by
  rw [List.length_append] at hj
  by_cases h : j = T.length
  · subst h
    simp [upd]
  · have h2 : j < T.length := by simp at hj; omega
    rw [pk_un h, p3 j h2, List.getD_eq_getElem?_getD, List.getD_eq_getElem?_getD, List.getElem?_append_left h2]
set_option maxRecDepth 10000 in
/-- one turn of addFour's loop -/
theorem tp_turn {X : Nat × (Nat → Int32)} {d t q : Nat} {T : List Nat} {h : List va_E} {a s : Int32} {Q : Option Value → List va_E → Prop} (P : tp_ h t q T) (hl : T.length < 400) (hs : ab_cd .lt s 0 = false)
    (k : ∀ h', tp_ h' t q (T ++ [tp_b a s]) → fr_ (fun z => z = t ∨ z = q) h h' → rt_ X d 15 3 [some (.ref t), some (.int a), some (.int (s + Int32.ofInt (-8)))] [] h' Q) : rt_ X d 15 3 [some (.ref t), some (.int a), some (.int s)] [] h Q := by
  obtain ⟨p1, ⟨f, p2, p3⟩, p4, p5⟩ := P
  have hne : q ≠ t := by
    intro z
    rw [z, p1] at p2
    cases p2
  refine rt_n rfl ?_
  refine rt_if rfl (fun h1 => absurd (hs.symm.trans h1) (by decide)) (fun _ => ?_)
  refine rt_n rfl ?_
  refine rt_gf rfl p1 rfl rfl ?_
  refine rt_n rfl ?_
  refine rt_ic rfl (fun h2 => ?_) (fun _ => ?_)
  · exfalso
    have h3 : nI 400 ≤ nI T.length := of_decide_eq_true h2
    rw [nI_leI (by omega) (by omega)] at h3
    omega
  refine rt_n rfl ?_
  refine rt_gf rfl p1 rfl rfl ?_
  refine rt_n rfl ?_
  refine rt_gf rfl p1 rfl rfl ?_
  refine rt_n rfl ?_
  refine rt_n rfl ?_
  refine rt_n rfl ?_
  refine rt_n rfl ?_
  refine rt_n rfl ?_
  refine rt_n rfl ?_
  refine rt_cas rfl p2 rfl (tp_ix (by omega) (by omega)) ?_
  have e1 : upd f (nI T.length).toNatClampNeg (vp_nar .char ((((a.toUInt32 >>> (s.toUInt32 &&& Int32.toUInt32 31)).toInt32 &&& 255).toUInt32 % 65536).toInt32)) = upd f T.length (nI (tp_b a s)) := by rw [nI_clamp (by omega), tp_bv]
  show rt_ X d 15 34 [some (.ref t), some (.int a), some (.int s)] [] (h.set q (.inl (0, 400, .inl (upd f (nI T.length).toNatClampNeg (vp_nar .char ((((a.toUInt32 >>> (s.toUInt32 &&& Int32.toUInt32 31)).toInt32 &&& 255).toUInt32 % 65536).toInt32)))))) Q
  rw [e1]
  have q1 : (h.set q (.inl (0, 400, .inl (upd f T.length (nI (tp_b a s))))))[t]? = some (.inr (1, [.ref q, .int (nI T.length)])) := by rw [List.getElem?_set_ne hne]; exact p1
  have q2 := st_in_ (e' := (.inl (0, 400, .inl (upd f T.length (nI (tp_b a s)))) : va_E)) p2
  refine rt_n rfl ?_
  refine rt_n rfl ?_
  refine rt_gf rfl q1 rfl rfl ?_
  refine rt_n rfl ?_
  refine rt_n rfl ?_
  refine rt_pf rfl q1 ⟨rfl, (show 1 < 2 by decide), rfl⟩ ?_
  refine rt_n rfl ?_
  refine rt_n rfl ?_
  refine k _ ⟨?_, ⟨upd f T.length (nI (tp_b a s)), ?_, fun j hj => tp_app p3 hj⟩, ?_, ?_⟩ ?_
  · rw [st_in_ q1, List.length_append]
    show some (Sum.inr (1, [Value.ref q, Value.int (nI T.length + nI 1)])) = _
    rw [nI_add]
    rfl
  · rw [List.getElem?_set_ne hne.symm]
    exact q2
  · rw [List.length_append]
    show T.length + 1 ≤ 400
    omega
  · intro c hc
    rcases List.mem_append.mp hc with hc | hc
    · exact p5 c hc
    · rw [List.mem_singleton.mp hc]
      exact tp_b_lt a s
  · refine fr_tr (h1 := h.set q (.inl (0, 400, .inl (upd f T.length (nI (tp_b a s)))))) (fr_set p2 ?_ (Or.inr rfl)) (fr_set q1 ?_ (Or.inl rfl)) <;> rfl
/-- the four bytes of an int, the highest first -/
def tp_4 (a : Int32) : List Nat := [tp_b a 24, tp_b a 16, tp_b a 8, tp_b a 0]
theorem tp_four {X : Nat × (Nat → Int32)} {d t q : Nat} {T : List Nat} {h : List va_E} (P : tp_ h t q T) (hl : T.length + 4 ≤ 400) (a : Int32) : rt_ X d 15 0 [some (.ref t), some (.int a), none] [] h (fun v h' => v = none ∧ tp_ h' t q (T ++ tp_4 a) ∧ fr_ (fun z => z = t ∨ z = q) h h') := by
  refine rt_n rfl ?_
  refine rt_n rfl ?_
  refine tp_turn (s := 24) P (by omega) (by decide) (fun h1 P1 F1 => ?_)
  refine tp_turn (s := 16) P1 (by rw [List.length_append]; show T.length + 1 < 400; omega) (by decide) (fun h2 P2 F2 => ?_)
  refine tp_turn (s := 8) P2 (by rw [List.length_append, List.length_append]; show T.length + 1 + 1 < 400; omega) (by decide) (fun h3 P3 F3 => ?_)
  refine tp_turn (s := 0) P3 (by rw [List.length_append, List.length_append, List.length_append]; show T.length + 1 + 1 + 1 < 400; omega) (by decide) (fun h4 P4 F4 => ?_)
  refine rt_n rfl ?_
  refine rt_n rfl ?_
  refine rt_r (v := none) rfl rfl ⟨rfl, ?_, fr_tr (fr_tr (fr_tr F1 F2) F3) F4⟩
  rw [List.append_assoc, List.append_assoc, List.append_assoc] at P4
  exact P4
