/-! MATHEMATICS, 3: what lies beyond 32 doesn't count; versions' order. -/
section MA3
variable {n G : Nat} {mem riv ned : Nat → Nat → Prop} {rg op : Nat → Prop}
theorem wnm_cg {c c' : Nat → Prop} (e : ∀ q, q < 32 → (c q ↔ c' q)) : ∀ i q, q < 32 → (wnm G mem riv ned c i q ↔ wnm G mem riv ned c' i q)
  | 0, q, hq => e q hq
  | i + 1, q, hq => by
    have h1 := wnm_cg e i
    have h2 := cMt_cg (G := G) (mem := mem) (riv := riv) (ned := ned) (p := i) h1
    exact and_congr (h1 q hq) (not_congr (and_congr Iff.rfl (not_congr h2)))
theorem rGr_cg {c c' : Nat → Prop} (hn : n ≤ 32) (e : ∀ q, q < 32 → (c q ↔ c' q)) : ∀ k g, rGr n G mem ned rg c k g ↔ rGr n G mem ned rg c' k g
  | 0, _ => Iff.rfl
  | k + 1, g => by
    have h1 := rGr_cg hn e k
    refine or_congr (h1 g) ⟨?_, ?_⟩
    · rintro ⟨p, a, ⟨b, g', x, y, z⟩, w⟩
      exact ⟨p, a, ⟨(e p (by omega)).mp b, g', x, (h1 g').mp y, z⟩, w⟩
    · rintro ⟨p, a, ⟨b, g', x, y, z⟩, w⟩
      exact ⟨p, a, ⟨(e p (by omega)).mpr b, g', x, (h1 g').mpr y, z⟩, w⟩
theorem rch_cg {c c' : Nat → Prop} (hn : n ≤ 32) (e : ∀ q, q < 32 → (c q ↔ c' q)) (q : Nat) (hq : q < 32) : rch n G mem ned rg c q ↔ rch n G mem ned rg c' q := by
  rw [rch_i _ hn, rch_i _ hn]
  constructor
  · rintro ⟨k, a, g, x, y, z⟩
    exact ⟨k, (e q hq).mp a, g, x, (rGr_cg hn e k g).mp y, z⟩
  · rintro ⟨k, a, g, x, y, z⟩
    exact ⟨k, (e q hq).mpr a, g, x, (rGr_cg hn e k g).mpr y, z⟩
theorem stF_cg (hn : n ≤ 32) : ∀ f {c c' : Nat → Prop}, (∀ q, q < 32 → (c q ↔ c' q)) → ∀ q, q < 32 → (stF n G mem riv ned rg f c q ↔ stF n G mem riv ned rg f c' q)
  | 0, c, c', e, q, hq => e q hq
  | f + 1, c, c', e, q, hq => by
    have h1 : ∀ q, q < 32 → (rch n G mem ned rg (wnm G mem riv ned c n) q ↔ rch n G mem ned rg (wnm G mem riv ned c' n) q) := rch_cg hn (wnm_cg e n)
    rw [stF, stF]
    by_cases y : ∀ q, q < 32 → (rch n G mem ned rg (wnm G mem riv ned c n) q ↔ c q)
    · rw [if_pos y, if_pos (fun q hq => (h1 q hq).symm.trans ((y q hq).trans (e q hq)))]
      exact e q hq
    · rw [if_neg y, if_neg (fun z => y (fun q hq => (h1 q hq).trans ((z q hq).trans (e q hq).symm)))]
      exact stF_cg hn f h1 q hq
theorem chB_cg {t l l' : Nat → Prop} (e : ∀ q, q < 32 → (l q ↔ l' q)) : chB G mem rg t l ↔ chB G mem rg t l' := by
  refine or_congr ⟨fun ⟨q, a, b, x⟩ => ⟨q, a, b, fun y => x ((e q a).mpr y)⟩, fun ⟨q, a, b, x⟩ => ⟨q, a, b, fun y => x ((e q a).mp y)⟩⟩ (not_congr ⟨fun w g a b => ?_, fun w g a b => ?_⟩)
  · obtain ⟨q, x, y, z⟩ := w g a b; exact ⟨q, x, y, (e q x).mp z⟩
  · obtain ⟨q, x, y, z⟩ := w g a b; exact ⟨q, x, y, (e q x).mpr z⟩
theorem chL_cg {f f' : Nat → Option (Nat → Prop)} {sel sel' : Nat → Prop} (ef : ∀ p, p < 32 → f p = f' p) (es : ∀ p, p < 32 → (sel p ↔ sel' p)) : ∀ k p, p + k ≤ 32 → chL f sel k p = chL f' sel' k p
  | 0, _, _ => rfl
  | k + 1, p, h => by
    rw [chL, chL, chL_cg ef es k (p + 1) (by omega), ef p (by omega)]
    by_cases q : sel p
    · rw [if_pos q, if_pos ((es p (by omega)).mp q)]
    · rw [if_neg q, if_neg (fun y => q ((es p (by omega)).mpr y))]
theorem cho_cg (hn : n ≤ 32) : ∀ k t {c c' : Nat → Prop}, (∀ q, q < 32 → (c q ↔ c' q)) → cho n G mem riv ned rg k t c = cho n G mem riv ned rg k t c'
  | 0, t, c, c', e => by
    have h1 : ∀ q, q < 32 → (stl n G mem riv ned rg c q ↔ stl n G mem riv ned rg c' q) := stF_cg hn 33 e
    rw [cho, cho]
    by_cases y : chB G mem rg t (stl n G mem riv ned rg c)
    · rw [if_pos y, if_pos ((chB_cg h1).mp y)]
    · rw [if_neg y, if_neg (fun z => y ((chB_cg h1).mpr z))]
  | k + 1, t, c, c', e => by
    have h1 : ∀ q, q < 32 → (stl n G mem riv ned rg c q ↔ stl n G mem riv ned rg c' q) := stF_cg hn 33 e
    rw [cho, cho]
    by_cases y : chB G mem rg t (stl n G mem riv ned rg c)
    · rw [if_pos y, if_pos ((chB_cg h1).mp y)]
    · rw [if_neg y, if_neg (fun z => y ((chB_cg h1).mpr z))]
      rw [cho_cg hn k t (c := fun q => stl n G mem riv ned rg c q ∧ ¬ mem (G - (k + 1)) q) (c' := fun q => stl n G mem riv ned rg c' q ∧ ¬ mem (G - (k + 1)) q) (fun q hq => and_congr (h1 q hq) Iff.rfl)]
      rw [chL_cg (f' := fun p => cho n G mem riv ned rg k (fun q => t q ∨ q = p) (fun q => stl n G mem riv ned rg c' q ∧ ¬ riv p q)) (sel' := fun p => mem (G - (k + 1)) p ∧ stl n G mem riv ned rg c' p) (fun p hp => cho_cg hn k _ (fun q hq => and_congr (h1 q hq) Iff.rfl)) (fun p hp => and_congr Iff.rfl (h1 p hp)) n 0 (by omega)]
end MA3
section MA4
theorem i64_tri (x y : Int64) : x < y ∨ x = y ∨ y < x := by
  rw [Int64.lt_iff_toInt_lt, Int64.lt_iff_toInt_lt, ← Int64.toInt_inj]; omega
theorem i64_irr (x : Int64) : ¬ x < x := by rw [Int64.lt_iff_toInt_lt]; omega
theorem i64_tr {x y z : Int64} (a : x < y) (b : y < z) : x < z := by rw [Int64.lt_iff_toInt_lt] at *; omega
theorem i64_as {x y : Int64} (a : x < y) (b : y < x) : False := by rw [Int64.lt_iff_toInt_lt] at *; omega
theorem vn_sy (f g : Nat → Int64) : ∀ n i, vn_c f g n i = - vn_c g f n i
  | 0, _ => by rw [vn_c, vn_c]; rfl
  | n + 1, i => by
    rw [vn_c, vn_c]
    rcases i64_tri (f i) (g i) with h | h | h
    · rw [if_neg (fun e => i64_irr _ (e ▸ h)), if_pos h, if_neg (fun e => i64_irr _ (e ▸ h)), if_neg (fun e => i64_as h e)]
    · rw [if_pos h, if_pos h.symm]; exact vn_sy f g n (i + 1)
    · rw [if_neg (fun e => i64_irr _ (e ▸ h)), if_neg (fun e => i64_as h e), if_neg (fun e => i64_irr _ (e ▸ h)), if_pos h]; rfl
theorem vn_tr (f g k : Nat → Int64) : ∀ n i, vn_c f g n i < 0 → vn_c g k n i < 0 → vn_c f k n i < 0
  | 0, _ => fun h => absurd h (by rw [vn_c]; decide)
  | n + 1, i => by
    rw [vn_c, vn_c, vn_c]
    rcases i64_tri (f i) (g i) with h | h | h
    · rw [if_neg (fun e => i64_irr _ (e ▸ h)), if_pos h]
      intro _
      rcases i64_tri (g i) (k i) with h' | h' | h'
      · intro _
        have := i64_tr h h'
        rw [if_neg (fun e => i64_irr _ (e ▸ this)), if_pos this]; decide
      · intro _
        rw [← h', if_neg (fun e => i64_irr _ (e ▸ h)), if_pos h]; decide
      · rw [if_neg (fun e => i64_irr _ (e ▸ h')), if_neg (fun e => i64_as h' e)]
        exact fun y => absurd y (by decide)
    · rw [if_pos h, h]
      intro a
      by_cases h' : g i = k i
      · rw [if_pos h', if_pos h']; exact vn_tr f g k n (i + 1) a
      · rw [if_neg h', if_neg h']; exact id
    · rw [if_neg (fun e => i64_irr _ (e ▸ h)), if_neg (fun e => i64_as h e)]
      exact fun y => absurd y (by decide)
theorem vc_sy (u v : kV) : vc u v = - vc v u := vn_sy _ _ _ _
theorem vc_tr {u v w : kV} (a : vc u v < 0) (b : vc v w < 0) : vc u w < 0 := vn_tr _ _ _ _ _ a b
theorem vc3 (u v : kV) : vc u v = -1 ∨ vc u v = 0 ∨ vc u v = 1 := vn_3 _ _ _ _
theorem vc_gt {u v : kV} : 0 < vc u v ↔ vc v u < 0 := by
  rw [vc_sy u v]
  rcases vc3 v u with h | h | h <;> rw [h] <;> decide
theorem i64_ne {x y : Int64} (h : x < y) : ¬ x = y := fun e => i64_irr y (by rw [e] at h; exact h)
theorem i64_nf {x y : Int64} (h : y < x) : ¬ x = y := fun e => i64_ne h e.symm
theorem oa_lt {r s : kL} : oa r s < 0 ↔ nmI (lNm r) < nmI (lNm s) ∨ (nmI (lNm r) = nmI (lNm s) ∧ 0 < vc (lVe r) (lVe s)) := by
  unfold oa lcI
  rcases i64_tri (nmI (lNm r)) (nmI (lNm s)) with h | h | h
  · rw [if_neg (i64_ne h), if_pos h]
    exact ⟨fun _ => Or.inl h, fun _ => by decide⟩
  · rw [if_pos h, vc_gt]
    exact ⟨fun y => Or.inr ⟨h, y⟩, fun y => y.elim (fun z => absurd z (by rw [h]; exact i64_irr _)) (fun z => z.2)⟩
  · rw [if_neg (i64_nf h), if_neg (fun e => i64_as h e), if_neg (i64_nf h)]
    exact ⟨fun y => absurd y (by decide), fun y => y.elim (fun z => absurd z (fun e => i64_as h e)) (fun z => absurd z.1 (i64_nf h))⟩
theorem oa_eq {r s : kL} : oa r s = 0 ↔ nmI (lNm r) = nmI (lNm s) ∧ vc (lVe r) (lVe s) = 0 := by
  unfold oa lcI
  rcases i64_tri (nmI (lNm r)) (nmI (lNm s)) with h | h | h
  · rw [if_neg (i64_ne h), if_pos h]
    exact ⟨fun y => absurd y (by decide), fun y => absurd y.1 (i64_ne h)⟩
  · rw [if_pos h, vc_sy (lVe s)]
    refine ⟨fun y => ⟨h, ?_⟩, fun y => by rw [y.2]; rfl⟩
    rcases vc3 (lVe r) (lVe s) with z | z | z <;> rw [z] at y ⊢ <;> exact absurd y (by decide)
  · rw [if_neg (i64_nf h), if_neg (fun e => i64_as h e), if_neg (i64_nf h)]
    exact ⟨fun y => absurd y (by decide), fun y => absurd y.1 (i64_nf h)⟩
theorem oa_tr {r s t : kL} (a : oa r s < 0) (b : oa s t < 0) : oa r t < 0 := by
  rw [oa_lt] at *
  rcases a with a | ⟨a, a'⟩
  · rcases b with b | ⟨b, b'⟩
    · exact Or.inl (i64_tr a b)
    · exact Or.inl (by rw [← b]; exact a)
  · rcases b with b | ⟨b, b'⟩
    · exact Or.inl (by rw [a]; exact b)
    · exact Or.inr ⟨a.trans b, vc_gt.mpr (vc_tr (vc_gt.mp b') (vc_gt.mp a'))⟩
theorem oa_tri (r s : kL) : oa r s < 0 ∨ oa r s = 0 ∨ oa s r < 0 := by
  rw [oa_lt, oa_lt, oa_eq]
  rcases i64_tri (nmI (lNm r)) (nmI (lNm s)) with h | h | h
  · exact Or.inl (Or.inl h)
  · have := vc_sy (lVe s) (lVe r)
    rcases vc3 (lVe r) (lVe s) with z | z | z
    · exact Or.inr (Or.inr (Or.inr ⟨h.symm, by rw [this, z]; decide⟩))
    · exact Or.inr (Or.inl ⟨h, z⟩)
    · exact Or.inl (Or.inr ⟨h, by rw [z]; decide⟩)
  · exact Or.inr (Or.inr (Or.inl h))
theorem oa_as {r s : kL} (a : oa r s < 0) (b : oa s r < 0) : False := by
  have c := oa_tr a b
  rw [oa_lt] at c
  rcases c with c | ⟨_, c⟩
  · exact i64_irr _ c
  · rw [vc_gt] at c
    exact absurd (vc_gt.mpr c) (by have := vc_sy (lVe r) (lVe r); rcases vc3 (lVe r) (lVe r) with z | z | z <;> rw [z] at this c ⊢ <;> first | exact absurd this (by decide) | exact absurd c (by decide))
/-- two lists in their order with the same rows are the same -/
theorem srt_uni {α : Type} {R : α → α → Prop} (as : ∀ a b, R a b → R b a → False) : ∀ {l m : List α}, l.Pairwise R → m.Pairwise R → (∀ x, x ∈ l ↔ x ∈ m) → l = m
  | [], [], _, _, _ => rfl
  | [], b :: m, _, _, e => absurd ((e b).mpr (List.mem_cons_self ..)) (by simp)
  | a :: l, [], _, _, e => absurd ((e a).mp (List.mem_cons_self ..)) (by simp)
  | a :: l, b :: m, h1, h2, e => by
    have irr : ∀ a, ¬ R a a := fun a h => as a a h h
    rw [List.pairwise_cons] at h1 h2
    have eab : a = b := by
      have ha := (e a).mp (List.mem_cons_self ..)
      have hb := (e b).mpr (List.mem_cons_self ..)
      rcases List.mem_cons.mp ha with q | q
      · exact q
      · rcases List.mem_cons.mp hb with q' | q'
        · exact q'.symm
        · exact absurd (h1.1 b q') (fun y => as _ _ y (h2.1 a q))
    subst eab
    rw [srt_uni as h1.2 h2.2 (fun x => ⟨fun hx => ?_, fun hx => ?_⟩)]
    · rcases List.mem_cons.mp ((e x).mp (List.mem_cons_of_mem _ hx)) with q | q
      · subst q; exact absurd (h1.1 _ hx) (irr _)
      · exact q
    · rcases List.mem_cons.mp ((e x).mpr (List.mem_cons_of_mem _ hx)) with q | q
      · subst q; exact absurd (h2.1 _ hx) (irr _)
      · exact q
end MA4
