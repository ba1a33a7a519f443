/-! THE INDEX, 2: room, insertion, removal; heaps that grow. -/
/-- all cells but those of A stay; c new cells, s new slots at most -/
def gr (A : Nat → Prop) (c s : Nat) (h h' : List va_E) : Prop := h.length ≤ h'.length ∧ h'.length ≤ h.length + c ∧ ab_sl tb_nf h' ≤ ab_sl tb_nf h + s ∧ ∀ k, k < h.length → ¬ A k → h'[k]? = h[k]?
theorem gr_rf {A : Nat → Prop} {h : List va_E} : gr A 0 0 h h := ⟨Nat.le_refl _, Nat.le_refl _, Nat.le_refl _, fun _ _ _ => rfl⟩
theorem gr_tr {A : Nat → Prop} {c s c' s' : Nat} {h h1 h2 : List va_E} (a : gr A c s h h1) (b : gr A c' s' h1 h2) : gr A (c + c') (s + s') h h2 := ⟨Nat.le_trans a.1 b.1, by have := a.2.1; have := b.2.1; omega, by have := a.2.2.1; have := b.2.2.1; omega, fun k hk ha => (b.2.2.2 k (Nat.lt_of_lt_of_le hk a.1) ha).trans (a.2.2.2 k hk ha)⟩
theorem gr_mo {A B : Nat → Prop} {c s c' s' : Nat} {h h' : List va_E} (a : gr A c s h h') (hA : ∀ k, A k → B k) (hc : c ≤ c') (hs : s ≤ s') : gr B c' s' h h' := ⟨a.1, by have := a.2.1; omega, by have := a.2.2.1; omega, fun k hk hb => a.2.2.2 k hk (fun q => hb (hA k q))⟩
theorem gr_fr {A : Nat → Prop} {h h' : List va_E} (a : fr_ A h h') : gr A 0 0 h h' := ⟨by rw [a.1]; exact Nat.le_refl _, by rw [a.1]; exact Nat.le_refl _, by rw [a.2.1]; exact Nat.le_refl _, fun k _ hk => a.2.2 k hk⟩
theorem gr_app {A : Nat → Prop} {h : List va_E} (e : va_E) : gr A 1 (ab_z tb_nf e) h (h ++ [e]) := ⟨by simp, by simp, by rw [ab_sl_app]; exact Nat.le_refl _, fun k hk _ => List.getElem?_append_left hk⟩
theorem gr_at {A : Nat → Prop} {c s k : Nat} {h h' : List va_E} {e : va_E} (a : gr A c s h h') (q : h[k]? = some e) (hk : ¬ A k) : h'[k]? = some e := (a.2.2.2 k (hc_lt q) hk).trans q
theorem gr_ex {A : Nat → Prop} {c s : Nat} {h h' : List va_E} (a : gr A c s h h') (hA : ∀ k, zz k → ¬ A k) : ex_ h h' := fun _ _ q => ⟨q.1, gr_at a q.2 (hA _ q.1)⟩
theorem fr_ex {A : Nat → Prop} {h h' : List va_E} (a : fr_ A h h') (hA : ∀ k, zz k → ¬ A k) : ex_ h h' := fun _ _ q => ⟨q.1, (a.2.2 _ (hA _ q.1)).trans q.2⟩
theorem fr_mo {A B : Nat → Prop} {h h' : List va_E} (a : fr_ A h h') (hA : ∀ k, A k → B k) : fr_ B h h' := ⟨a.1, a.2.1, fun k hb => a.2.2 k (fun q => hb (hA k q))⟩
theorem cIf.ex {h h' : List va_E} {F : Nat → Option Nat} {I : List kL} (E : ex_ h h') (C : cIf h F I) : cIf h' F I := fun i r hr => by
  obtain ⟨a, f, z⟩ := C i r hr
  exact ⟨a, f, z.ex E⟩
theorem cI.fr {A : Nat → Prop} {h h' : List va_E} {I : List kL} {nx : Nat} (C : cI h I nx) (E : ex_ h h') (h4 : h'[4]? = h[4]?) (h5 : h'[5]? = h[5]?) : cI h' I nx := by
  obtain ⟨F, c4, c5, a, b, f⟩ := C
  exact ⟨F, h4.trans c4, h5.trans c5, a, b, f.ex E⟩
theorem ret1 {p : Prop} (h : p) : some (Value.int (nI 1)) = some (Value.int (tB p)) := by rw [tB_t h]; rfl
theorem ret0 {p : Prop} (h : ¬ p) : some (Value.int (nI 0)) = some (Value.int (tB p)) := by rw [tB_f h]; rfl
section IX2
variable {X : Nat × (Nat → Int32)} {d : Nat} {h : List va_E} {Q : Option Value → List va_E → Prop} {I : List kL} {nx : Nat}
theorem ix_like1 {m : Nat} {s : kL} (C : cI h I nx) (M : zL h m s) (i : Nat) (hi : i ≤ I.length) (H : ∀ (j : Nat) r, j < i → I[j]? = some r → ¬ oa r s = 0) : rt_ X (d + 2) 55 2 [some (.ref 4), some (.ref m), some (.int (nI i))] [] h (fun v h' => v = some (.int (tB (∃ r ∈ I, oa r s = 0))) ∧ h' = h) := by
  obtain ⟨F, c4, c5, hn, hx, HI⟩ := id C
  refine rt_k (k := 2) (pc' := 4) (L' := [some (.ref 4), some (.ref m), some (.int (nI i))]) (st' := [.ref 4, .int (nI i)]) (h' := h) (fun _ => rfl) ?_
  refine rt_gf rfl c4 rfl rfl ?_
  refine rt_ige rfl (by omega) (by omega) (fun z => ?_) (fun z => ?_)
  ·
    refine rt_k (k := 1) (pc' := 32) (L' := [some (.ref 4), some (.ref m), some (.int (nI i))]) (st' := [.int (nI 0)]) (h' := h) (fun _ => rfl) ?_
    exact rt_r (v := some (.int (nI 0))) rfl rfl (⟨by rw [tB_f]; rfl; rintro ⟨r, hr, e⟩; obtain ⟨j, hj⟩ := gt_mem hr; exact H j r (by have := gt_lt hj; omega) hj e, rfl⟩)
  obtain ⟨r, hr⟩ := gt_ex z
  obtain ⟨a, fa, za⟩ := HI i r hr
  obtain ⟨v, nd, bk, ps, pf, ⟨-, ca⟩, -⟩ := id za
  refine rt_k (k := 1) (pc' := 11) (L' := [some (.ref 4), some (.ref m), some (.int (nI i))]) (st' := [.ref 4]) (h' := h) (fun _ => rfl) ?_
  refine rt_gf rfl c4 rfl rfl ?_
  refine rt_k (k := 1) (pc' := 15) (L' := [some (.ref 4), some (.ref m), some (.int (nI i))]) (st' := [.int (nI i), .ref 5]) (h' := h) (fun _ => rfl) ?_
  refine rt_aalN rfl c5 rfl (by omega) (by decide) fa ?_
  refine rt_k (k := 1) (pc' := 17) (L' := [some (.ref 4), some (.ref m), some (.int (nI i))]) (st' := [.ref m, .ref a]) (h' := h) (fun _ => rfl) ?_
  refine rt_cvE rfl (by decide) ca rfl rfl rfl rfl (rel_oa za M) ?_
  refine rt_qn rfl (fun z2 => ?_) (fun z2 => ?_)
  rotate_left
  ·
    refine rt_k (k := 1) (pc' := 24) (L' := [some (.ref 4), some (.ref m), some (.int (nI i))]) (st' := [.int (nI 1)]) (h' := h) (fun _ => rfl) ?_
    exact rt_r (v := some (.int (nI 1))) rfl rfl (⟨by rw [tB_t ⟨r, gt_in hr, z2⟩]; rfl, rfl⟩)
  refine rt_inc (c := 1) rfl rfl ?_
  refine rt_k (k := 1) (pc' := 2) (L' := [some (.ref 4), some (.ref m), some (.int (nI (i + 1)))]) (st' := []) (h' := h) (fun _ => rfl) ?_
  exact ix_like1 C M (i + 1) (by omega) (fun j r' hj hr' => by
    by_cases q : j = i
    · subst q; rw [hr] at hr'; cases hr'; exact z2
    · exact H j r' (by omega) hr')
termination_by I.length - i
theorem ix_like {m : Nat} {s : kL} (C : cI h I nx) (M : zL h m s) : rt_ X (d + 2) 55 0 [some (.ref 4), some (.ref m), none] [] h (fun v h' => v = some (.int (tB (∃ r ∈ I, oa r s = 0))) ∧ h' = h) := by
  refine rt_k (k := 2) (pc' := 2) (L' := [some (.ref 4), some (.ref m), some (.int (nI 0))]) (st' := []) (h' := h) (fun _ => rfl) ?_
  exact ix_like1 C M 0 (by omega) (fun j r hj => absurd hj (Nat.not_lt_zero _))
/-- does a name begin at this place -/
def bnm (I : List kL) (p : Nat) : Prop := p = 0 ∨ ∀ r s, I[p - 1]? = some r → I[p]? = some s → ¬ nmI (lNm r) = nmI (lNm s)
theorem ix_begins (C : cI h I nx) (p : Nat) (hp : p < I.length) : rt_ X d 60 0 [some (.ref 4), some (.int (nI p))] [] h (fun v h' => v = some (.int (tB (bnm I p))) ∧ h' = h) := by
  obtain ⟨F, c4, c5, hn, hx, HI⟩ := id C
  refine rt_k (k := 1) (pc' := 1) (L' := [some (.ref 4), some (.int (nI p))]) (st' := [.int (nI p)]) (h' := h) (fun _ => rfl) ?_
  refine rt_zeq rfl (by omega) (fun z => ?_) (fun z => ?_)
  ·
    refine rt_k (k := 2) (pc' := 33) (L' := [some (.ref 4), some (.int (nI p))]) (st' := [.int (nI 1)]) (h' := h) (fun _ => rfl) ?_
    exact rt_r (v := some (.int (nI 1))) rfl rfl (⟨ret1 (Or.inl z), rfl⟩)
  obtain ⟨r, hr⟩ := gt_ex (l := I) (i := p - 1) (by omega)
  obtain ⟨s, hs⟩ := gt_ex hp
  obtain ⟨a, fa, v, nd, bk, ps, pf, ⟨-, ca⟩, -⟩ := HI _ r hr
  obtain ⟨a', fa', v', nd', bk', ps', pf', ⟨-, ca'⟩, -⟩ := HI _ s hs
  refine rt_k (k := 1) (pc' := 5) (L' := [some (.ref 4), some (.int (nI p))]) (st' := [.ref 4]) (h' := h) (fun _ => rfl) ?_
  refine rt_gf rfl c4 rfl rfl ?_
  refine rt_k (k := 2) (pc' := 10) (L' := [some (.ref 4), some (.int (nI p))]) (st' := [.int (nI 1), .int (nI p), .ref 5]) (h' := h) (fun _ => rfl) ?_
  refine rt_sub rfl (by omega) ?_
  refine rt_aalN rfl c5 rfl (by omega) (by decide) fa ?_
  refine rt_gf rfl ca rfl rfl ?_
  refine rt_k (k := 1) (pc' := 16) (L' := [some (.ref 4), some (.int (nI p))]) (st' := [.ref 4, .long (nmI (lNm r))]) (h' := h) (fun _ => rfl) ?_
  refine rt_gf rfl c4 rfl rfl ?_
  refine rt_k (k := 1) (pc' := 20) (L' := [some (.ref 4), some (.int (nI p))]) (st' := [.int (nI p), .ref 5, .long (nmI (lNm r))]) (h' := h) (fun _ => rfl) ?_
  refine rt_aalN rfl c5 rfl (by omega) (by decide) fa' ?_
  refine rt_gf rfl ca' rfl rfl ?_
  refine rt_k (k := 1) (pc' := 25) (L' := [some (.ref 4), some (.int (nI p))]) (st' := [.int (lg_cmp (nmI (lNm r)) (nmI (lNm s)))]) (h' := h) (fun _ => rfl) ?_
  refine rt_le rfl (fun z2 => ?_) (fun z2 => ?_)
  ·
    refine rt_k (k := 1) (pc' := 33) (L' := [some (.ref 4), some (.int (nI p))]) (st' := [.int (nI 0)]) (h' := h) (fun _ => rfl) ?_
    exact rt_r (v := some (.int (nI 0))) rfl rfl (⟨ret0 (fun q => q.elim (fun q => by omega) (fun q => q r s hr hs z2)), rfl⟩)
  refine rt_k (k := 2) (pc' := 33) (L' := [some (.ref 4), some (.int (nI p))]) (st' := [.int (nI 1)]) (h' := h) (fun _ => rfl) ?_
  exact rt_r (v := some (.int (nI 1))) rfl rfl (⟨ret1 (Or.inr fun r' s' hr' hs' => by rw [hr] at hr'; rw [hs] at hs'; cases hr'; cases hs'; exact z2), rfl⟩)
noncomputable def nbn (I : List kL) : Nat → Nat
  | 0 => 0
  | n + 1 => nbn I n + @ite Nat (bnm I n) (Classical.propDecidable _) 1 0
theorem nbn_le (I : List kL) : ∀ n, nbn I n ≤ n
  | 0 => Nat.le_refl _
  | n + 1 => by
    unfold nbn
    have := nbn_le I n
    split <;> omega
def alk (I : List kL) (m : kL) : Nat := I.countP (fun r => decide (nmI (lNm r) = nmI (lNm m)))
theorem alk_s {m r : kL} {i : Nat} (hr : I[i]? = some r) : alk (I.take (i + 1)) m = alk (I.take i) m + (if nmI (lNm r) = nmI (lNm m) then 1 else 0) := by
  unfold alk
  rw [List.take_add_one, hr, List.countP_append]
  simp
def rmP (I : List kL) (m : kL) : Prop := I.length < 32 ∧ alk I m < 5 ∧ (0 < alk I m ∨ nbn I I.length < 8)
theorem ix_room1 {m : Nat} {s : kL} (C : cI h I nx) (M : zL h m s) (i : Nat) (hi : i ≤ I.length) : rt_ X (d + 1) 59 7 [some (.ref 4), some (.ref m), some (.int (nI (nbn I i))), some (.int (nI (alk (I.take i) s))), some (.int (nI i))] [] h (fun v h' => v = some (.int (tB (rmP I s))) ∧ h' = h) := by
  obtain ⟨F, c4, c5, hn, hx, HI⟩ := id C
  obtain ⟨v', nd', bk', ps', pf', ⟨-, cm⟩, -⟩ := id M
  have b1 := nbn_le I i
  have b2 : alk (I.take i) s ≤ i := by have := List.countP_le_length (p := fun r => decide (nmI (lNm r) = nmI (lNm s))) (l := I.take i); unfold alk; rw [List.length_take] at this; omega
  refine rt_k (k := 2) (pc' := 10) (L' := [some (.ref 4), some (.ref m), some (.int (nI (nbn I i))), some (.int (nI (alk (I.take i) s))), some (.int (nI i))]) (st' := [.ref 4, .int (nI i)]) (h' := h) (fun _ => rfl) ?_
  refine rt_gf rfl c4 rfl rfl ?_
  refine rt_ige rfl (by omega) (by omega) (fun z => ?_) (fun z => ?_)
  ·
    have e : I.take i = I := List.take_of_length_le z
    have ei : i = I.length := by omega
    rw [e] at b2 ⊢
    have e2 : nbn I i = nbn I I.length := by rw [ei]
    rw [e2]
    refine rt_k (k := 1) (pc' := 56) (L' := [some (.ref 4), some (.ref m), some (.int (nI (nbn I I.length))), some (.int (nI (alk I s))), some (.int (nI i))]) (st' := [.ref 4]) (h' := h) (fun _ => rfl) ?_
    refine rt_gf rfl c4 rfl rfl ?_
    refine rt_k (k := 1) (pc' := 61) (L' := [some (.ref 4), some (.ref m), some (.int (nI (nbn I I.length))), some (.int (nI (alk I s))), some (.int (nI i))]) (st' := [.int (nI 32), .int (nI I.length)]) (h' := h) (fun _ => rfl) ?_
    refine rt_ige rfl (by omega) (by decide) (fun z1 => ?_) (fun z1 => ?_)
    ·
      refine rt_k (k := 1) (pc' := 84) (L' := [some (.ref 4), some (.ref m), some (.int (nI (nbn I I.length))), some (.int (nI (alk I s))), some (.int (nI i))]) (st' := [.int (nI 0)]) (h' := h) (fun _ => rfl) ?_
      exact rt_r (v := some (.int (nI 0))) rfl rfl (⟨by rw [tB_f]; rfl; intro q; have := q.1; omega, rfl⟩)
    refine rt_k (k := 2) (pc' := 66) (L' := [some (.ref 4), some (.ref m), some (.int (nI (nbn I I.length))), some (.int (nI (alk I s))), some (.int (nI i))]) (st' := [.int (nI 5), .int (nI (alk I s))]) (h' := h) (fun _ => rfl) ?_
    refine rt_ige rfl (by omega) (by decide) (fun z2 => ?_) (fun z2 => ?_)
    ·
      refine rt_k (k := 1) (pc' := 84) (L' := [some (.ref 4), some (.ref m), some (.int (nI (nbn I I.length))), some (.int (nI (alk I s))), some (.int (nI i))]) (st' := [.int (nI 0)]) (h' := h) (fun _ => rfl) ?_
      exact rt_r (v := some (.int (nI 0))) rfl rfl (⟨by rw [tB_f]; rfl; intro q; have := q.2.1; omega, rfl⟩)
    refine rt_k (k := 1) (pc' := 70) (L' := [some (.ref 4), some (.ref m), some (.int (nI (nbn I I.length))), some (.int (nI (alk I s))), some (.int (nI i))]) (st' := [.int (nI (alk I s))]) (h' := h) (fun _ => rfl) ?_
    refine rt_zgt rfl (by omega) (fun z3 => ?_) (fun z3 => ?_)
    ·
      refine rt_k (k := 2) (pc' := 84) (L' := [some (.ref 4), some (.ref m), some (.int (nI (nbn I I.length))), some (.int (nI (alk I s))), some (.int (nI i))]) (st' := [.int (nI 1)]) (h' := h) (fun _ => rfl) ?_
      exact rt_r (v := some (.int (nI 1))) rfl rfl (⟨by rw [tB_t ⟨z1, z2, Or.inl z3⟩]; rfl, rfl⟩)
    refine rt_k (k := 2) (pc' := 76) (L' := [some (.ref 4), some (.ref m), some (.int (nI (nbn I I.length))), some (.int (nI (alk I s))), some (.int (nI i))]) (st' := [.int (nI 8), .int (nI (nbn I I.length))]) (h' := h) (fun _ => rfl) ?_
    refine rt_ige rfl (by omega) (by decide) (fun z4 => ?_) (fun z4 => ?_)
    ·
      refine rt_k (k := 1) (pc' := 84) (L' := [some (.ref 4), some (.ref m), some (.int (nI (nbn I I.length))), some (.int (nI (alk I s))), some (.int (nI i))]) (st' := [.int (nI 0)]) (h' := h) (fun _ => rfl) ?_
      exact rt_r (v := some (.int (nI 0))) rfl rfl (⟨by rw [tB_f]; rfl; intro q; have := q.2.2; omega, rfl⟩)
    refine rt_k (k := 2) (pc' := 84) (L' := [some (.ref 4), some (.ref m), some (.int (nI (nbn I I.length))), some (.int (nI (alk I s))), some (.int (nI i))]) (st' := [.int (nI 1)]) (h' := h) (fun _ => rfl) ?_
    exact rt_r (v := some (.int (nI 1))) rfl rfl (⟨by rw [tB_t ⟨z1, z2, Or.inr z4⟩]; rfl, rfl⟩)
  obtain ⟨r, hr⟩ := gt_ex z
  obtain ⟨a, fa, v, nd, bk, ps, pf, ⟨-, ca⟩, -⟩ := HI _ r hr
  have k2 : rt_ X (d + 1) 59 28 [some (.ref 4), some (.ref m), some (.int (nI (nbn I (i + 1)))), some (.int (nI (alk (I.take i) s))), some (.int (nI i))] [] h (fun v h' => v = some (.int (tB (rmP I s))) ∧ h' = h) := by
    refine rt_k (k := 1) (pc' := 29) (L' := [some (.ref 4), some (.ref m), some (.int (nI (nbn I (i + 1)))), some (.int (nI (alk (I.take i) s))), some (.int (nI i))]) (st' := [.ref 4]) (h' := h) (fun _ => rfl) ?_
    refine rt_gf rfl c4 rfl rfl ?_
    refine rt_k (k := 1) (pc' := 34) (L' := [some (.ref 4), some (.ref m), some (.int (nI (nbn I (i + 1)))), some (.int (nI (alk (I.take i) s))), some (.int (nI i))]) (st' := [.int (nI i), .ref 5]) (h' := h) (fun _ => rfl) ?_
    refine rt_aalN rfl c5 rfl (by omega) (by decide) fa ?_
    refine rt_gf rfl ca rfl rfl ?_
    refine rt_k (k := 1) (pc' := 39) (L' := [some (.ref 4), some (.ref m), some (.int (nI (nbn I (i + 1)))), some (.int (nI (alk (I.take i) s))), some (.int (nI i))]) (st' := [.ref m, .long (nmI (lNm r))]) (h' := h) (fun _ => rfl) ?_
    refine rt_gf rfl cm rfl rfl ?_
    refine rt_k (k := 1) (pc' := 43) (L' := [some (.ref 4), some (.ref m), some (.int (nI (nbn I (i + 1)))), some (.int (nI (alk (I.take i) s))), some (.int (nI i))]) (st' := [.int (lg_cmp (nmI (lNm r)) (nmI (lNm s)))]) (h' := h) (fun _ => rfl) ?_
    refine rt_ln rfl (fun zn => ?_) (fun zn => ?_)
    ·
      refine rt_inc (c := 1) rfl rfl ?_
      refine rt_k (k := 1) (pc' := 7) (L' := [some (.ref 4), some (.ref m), some (.int (nI (nbn I (i + 1)))), some (.int (nI (alk (I.take i) s))), some (.int (nI (i + 1)))]) (st' := []) (h' := h) (fun _ => rfl) ?_
      have q := ix_room1 C M (i + 1) z
      rw [alk_s hr, if_neg zn] at q
      exact q
    refine rt_inc (c := 1) rfl rfl ?_
    refine rt_inc (c := 1) rfl rfl ?_
    refine rt_k (k := 1) (pc' := 7) (L' := [some (.ref 4), some (.ref m), some (.int (nI (nbn I (i + 1)))), some (.int (nI ((alk (I.take i) s) + 1))), some (.int (nI (i + 1)))]) (st' := []) (h' := h) (fun _ => rfl) ?_
    have q := ix_room1 C M (i + 1) z
    rw [alk_s hr, if_pos zn] at q
    exact q
  refine rt_k (k := 2) (pc' := 19) (L' := [some (.ref 4), some (.ref m), some (.int (nI (nbn I i))), some (.int (nI (alk (I.take i) s))), some (.int (nI i))]) (st' := [.int (nI i), .ref 4]) (h' := h) (fun _ => rfl) ?_
  refine rt_cvE rfl (by decide) c4 rfl rfl rfl rfl (ix_begins C i z) ?_
  refine rt_pe rfl (fun zb => ?_) (fun zb => ?_)
  ·
    have e : nbn I (i + 1) = nbn I i := by unfold nbn; rw [if_neg zb]; cases i <;> rfl
    rw [e] at k2
    exact k2
  have e : nbn I (i + 1) = nbn I i + 1 := by unfold nbn; rw [if_pos zb]; cases i <;> rfl
  rw [e] at k2
  refine rt_inc (c := 1) rfl rfl ?_
  exact k2
termination_by I.length - i
theorem ix_room {m : Nat} {s : kL} (C : cI h I nx) (M : zL h m s) : rt_ X (d + 1) 59 0 [some (.ref 4), some (.ref m), none, none, none] [] h (fun v h' => v = some (.int (tB (rmP I s))) ∧ h' = h) := by
  refine rt_k (k := 6) (pc' := 7) (L' := [some (.ref 4), some (.ref m), some (.int (nI 0)), some (.int (nI 0)), some (.int (nI 0))]) (st' := []) (h' := h) (fun _ => rfl) ?_
  exact ix_room1 C M 0 (Nat.zero_le _)
end IX2

