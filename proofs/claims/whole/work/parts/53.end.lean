/-! end, OF THE KEEPER AND OF THE REFERENCE. -/
theorem tp_tk {T : List Nat} {j k : Nat} (hj : j ≤ T.length) (hk : k < (T.take j).length) : (T.take j).getD k 0 = T.getD k 0 ∧ k < T.length := by
  rw [List.length_take] at hk
  rw [List.getD_eq_getElem?_getD, List.getD_eq_getElem?_getD, List.getElem?_take_of_lt (by omega)]
  exact ⟨rfl, by omega⟩
theorem tp_tl {T : List Nat} {j : Nat} (hj : j ≤ T.length) : (T.take j).length = j := by rw [List.length_take]; omega
theorem tp_cutT {h : List va_E} {t q j : Nat} {T : List Nat} (P : tp_ h t q T) (hj : j ≤ T.length) : tp_ (h.set t (.inr (1, [.ref q, .int (nI j)]))) t q (T.take j) ∧ fr_ (fun z => z = t ∨ z = q) h (h.set t (.inr (1, [.ref q, .int (nI j)]))) := by
  obtain ⟨p1, ⟨f, p2, p3⟩, p4, p5⟩ := P
  have hne : t ≠ q := by
    intro z
    rw [← z, p1] at p2
    cases p2
  refine ⟨⟨?_, ⟨f, by rw [List.getElem?_set_ne hne]; exact p2, fun k hk => ?_⟩, ?_, fun c hc => p5 c (List.mem_of_mem_take hc)⟩, ?_⟩
  · rw [st_in_ p1, tp_tl hj]
  · obtain ⟨e1, e2⟩ := tp_tk hj hk
    rw [e1]
    exact p3 k e2
  · rw [tp_tl hj]; omega
  · refine fr_set p1 ?_ (Or.inl rfl)
    rfl
/-- end's answer is below 0 -/
def en_no (T : List Nat) (n : Int32) : Prop := n < 0 ∨ nI T.length < n
theorem en_ok {T : List Nat} {n : Int32} (hT : T.length ≤ 400) (h : ¬ en_no T n) : ∃ j : Nat, j ≤ T.length ∧ n = nI j := by
  have h1 : ¬ n < 0 := fun z => h (Or.inl z)
  obtain ⟨j, hj, rfl⟩ := nI_of h1
  refine ⟨j, ?_, rfl⟩
  rcases Nat.lt_or_ge T.length j with z | z
  · exact absurd (Or.inr ((nI_ltI (by omega) hj).mpr z)) h
  · exact z
theorem pk_end {X : Nat × (Nat → Int32)} {d o t rd ix ro so hi q : Nat} {T : List Nat} {h : List va_E} (K : pk_ h o t rd ix ro so hi) (P : tp_ h t q T) (n : Int32) : rt_ X (d + 1) 17 0 [some (.ref o), some (.int n)] [] h (fun v h' => (en_no T n → v = some (.int (-1)) ∧ h' = h) ∧ (¬ en_no T n → v = some (.int n) ∧ tp_ h' t q (T.take n.toNatClampNeg) ∧ fr_ (fun z => z = t ∨ z = q) h h')) := by
  have ho := tp_no P K (by decide)
  have hT := P.2.2.1
  have hm1 : en_no T n → rt_ X (d + 1) 17 15 [some (.ref o), some (.int n)] [] h (fun v h' => (en_no T n → v = some (.int (-1)) ∧ h' = h) ∧ (¬ en_no T n → v = some (.int n) ∧ tp_ h' t q (T.take n.toNatClampNeg) ∧ fr_ (fun z => z = t ∨ z = q) h h')) := by
    intro hn
    refine rt_n rfl ?_
    exact rt_r (v := some (.int (-1))) rfl rfl ⟨fun _ => ⟨rfl, rfl⟩, fun z => absurd hn z⟩
  refine rt_n rfl ?_
  refine rt_if rfl (fun h1 => hm1 (Or.inl (of_decide_eq_true h1))) (fun h1 => ?_)
  have h1' : ¬ n < 0 := of_decide_eq_false h1
  refine rt_n rfl ?_
  refine rt_n rfl ?_
  refine rt_gf rfl K rfl rfl ?_
  refine rt_cv rfl (by decide) P.1 rfl rfl rfl rfl (tp_size P) ?_
  rintro v h2 ⟨rfl, rfl⟩
  refine rt_ic rfl (fun h2 => ?_) (fun h2 => hm1 (Or.inr (Int32.not_le.mp (of_decide_eq_false h2))))
  have h2' : n ≤ nI T.length := of_decide_eq_true h2
  have hno : ¬ en_no T n := fun z => z.elim h1' (fun z => absurd h2' (Int32.not_le.mpr z))
  obtain ⟨j, hj, rfl⟩ := en_ok hT hno
  refine rt_n rfl ?_
  refine rt_gf rfl K rfl rfl ?_
  refine rt_n rfl ?_
  refine rt_cv rfl (by decide) P.1 rfl rfl rfl rfl (tp_cut P (nI j)) ?_
  rintro v h3 ⟨rfl, rfl⟩
  refine rt_n rfl ?_
  refine rt_r (v := some (.int (nI j))) rfl rfl ⟨fun z => absurd z hno, fun _ => ⟨rfl, ?_⟩⟩
  rw [nI_clamp (by omega)]
  exact tp_cutT P hj
theorem tm_end {X : Nat × (Nat → Int32)} {d m g : Nat} {fs : List Value} {T : List Nat} {h : List va_E} (P : tm_ h m g fs T) (n : Int32) : rt_ X d 129 0 [some (.ref m), some (.int n)] [] h (fun v h' => (en_no T n → v = some (.int (-1)) ∧ h' = h) ∧ (¬ en_no T n → v = some (.int n) ∧ tm_ h' m g (fs.set 1 (.int n)) (T.take n.toNatClampNeg) ∧ fr_ (fun z => z = m ∨ z = g) h h')) := by
  obtain ⟨p1, pl, pa, pb, ⟨f, p2, p3⟩, hT, p5⟩ := P
  have hne : m ≠ g := by
    intro z
    rw [← z, p1] at p2
    cases p2
  have hm1 : en_no T n → rt_ X d 129 12 [some (.ref m), some (.int n)] [] h (fun v h' => (en_no T n → v = some (.int (-1)) ∧ h' = h) ∧ (¬ en_no T n → v = some (.int n) ∧ tm_ h' m g (fs.set 1 (.int n)) (T.take n.toNatClampNeg) ∧ fr_ (fun z => z = m ∨ z = g) h h')) := by
    intro hn
    refine rt_n rfl ?_
    exact rt_r (v := some (.int (-1))) rfl rfl ⟨fun _ => ⟨rfl, rfl⟩, fun z => absurd hn z⟩
  refine rt_n rfl ?_
  refine rt_if rfl (fun h1 => hm1 (Or.inl (of_decide_eq_true h1))) (fun h1 => ?_)
  have h1' : ¬ n < 0 := of_decide_eq_false h1
  refine rt_n rfl ?_
  refine rt_n rfl ?_
  refine rt_gf rfl p1 rfl pb ?_
  refine rt_ic rfl (fun h2 => ?_) (fun h2 => hm1 (Or.inr (Int32.not_le.mp (of_decide_eq_false h2))))
  have h2' : n ≤ nI T.length := of_decide_eq_true h2
  have hno : ¬ en_no T n := fun z => z.elim h1' (fun z => absurd h2' (Int32.not_le.mpr z))
  obtain ⟨j, hj, rfl⟩ := en_ok hT hno
  refine rt_n rfl ?_
  refine rt_n rfl ?_
  refine rt_pf rfl p1 ⟨rfl, (by rw [pl]; decide), rfl⟩ ?_
  refine rt_n rfl ?_
  refine rt_r (v := some (.int (nI j))) rfl rfl ⟨fun z => absurd z hno, fun _ => ⟨rfl, ⟨?_, ?_, ?_, ?_, ⟨f, ?_, fun k hk => ?_⟩, ?_, fun c hc => ?_⟩, ?_⟩⟩
  · exact st_in_ p1
  · rw [List.length_set]; exact pl
  · rw [List.getElem?_set_ne (by decide)]; exact pa
  · rw [List.getElem?_set_self (by rw [pl]; decide), nI_clamp (by omega), tp_tl hj]
  · rw [List.getElem?_set_ne hne]; exact p2
  · rw [nI_clamp (by omega)] at hk ⊢
    obtain ⟨e1, e2⟩ := tp_tk hj hk
    rw [e1]
    exact p3 k e2
  · rw [nI_clamp (by omega), tp_tl hj]; omega
  · exact p5 c (List.mem_of_mem_take hc)
  · refine fr_set p1 ?_ (Or.inl rfl)
    rfl
