/-! MATHEMATICS, 9: both sides answer the same. -/
section MB1
def gOK (nx : Nat) (g : kG) : Prop := ∃ S : List kL, g = arr S ∧ S.Pairwise (fun r s => nmI (lNm r) < nmI (lNm s)) ∧ S.length ≤ 8 ∧ ∀ r ∈ S, okL' r ∧ lNo r < nx
def inv (I J : List kL) (nx : Nat) (D : kD) (K : List kG) : Prop := (ixO I) ∧ (I.Perm J) ∧ (nbn I I.length ≤ 8) ∧ (∀ m, alk I m ≤ 5) ∧ (∀ r ∈ I, okL' r) ∧ (∀ r ∈ I, lNo r < nx) ∧ (∀ e ∈ D, smW e.1) ∧ (D.Pairwise (fun a b => ¬ a.1 = b.1)) ∧ (∃ ρ : Nat → kL, (∀ r ∈ I, ρ (lNo r) = r) ∧ ∀ g ∈ K, ∀ e ∈ g, ρ (lNo e.1) = e.1) ∧ (∀ g ∈ K, gOK nx g) ∧ (nx ≤ 600)
variable {I J : List kL} {nx : Nat} {D : kD} {K : List kG}
theorem inv.ix (H : inv I J nx D K) : ixO I := H.1
theorem inv.pm (H : inv I J nx D K) : I.Perm J := H.2.1
theorem inv.n8 (H : inv I J nx D K) : nbn I I.length ≤ 8 := H.2.2.1
theorem inv.a5 (H : inv I J nx D K) : ∀ m, alk I m ≤ 5 := H.2.2.2.1
theorem inv.pt (H : inv I J nx D K) : ∀ r ∈ I, okL' r := H.2.2.2.2.1
theorem inv.no (H : inv I J nx D K) : ∀ r ∈ I, lNo r < nx := H.2.2.2.2.2.1
theorem inv.ds (H : inv I J nx D K) : ∀ e ∈ D, smW e.1 := H.2.2.2.2.2.2.1
theorem inv.dn (H : inv I J nx D K) : D.Pairwise (fun a b => ¬ a.1 = b.1) := H.2.2.2.2.2.2.2.1
theorem inv.rh (H : inv I J nx D K) : ∃ ρ : Nat → kL, (∀ r ∈ I, ρ (lNo r) = r) ∧ ∀ g ∈ K, ∀ e ∈ g, ρ (lNo e.1) = e.1 := H.2.2.2.2.2.2.2.2.1
theorem inv.gk (H : inv I J nx D K) : ∀ g ∈ K, gOK nx g := H.2.2.2.2.2.2.2.2.2.1
theorem inv.nx6 (H : inv I J nx D K) : nx ≤ 600 := H.2.2.2.2.2.2.2.2.2.2
theorem inv.mm (H : inv I J nx D K) (r : kL) : r ∈ I ↔ r ∈ J := H.pm.mem_iff
theorem inv.uq (H : inv I J nx D K) {p q : Nat} {r s : kL} (hr : I[p]? = some r) (hs : I[q]? = some s) (e : lNo r = lNo s) : p = q := by
  obtain ⟨ρ, h1, _⟩ := H.rh
  have a := h1 r (List.mem_of_getElem? hr)
  have b := h1 s (List.mem_of_getElem? hs)
  rw [e, b] at a
  subst a
  apply Classical.byContradiction
  intro w
  rcases Nat.lt_or_gt_of_ne w with y | y
  · exact oa_as (pw_lt H.ix.1 y hr hs) (pw_lt H.ix.1 y hr hs)
  · exact oa_as (pw_lt H.ix.1 y hs hr) (pw_lt H.ix.1 y hs hr)
theorem inv.un (H : inv I J nx D K) : uniN I := fun p q r s hr hs e => by
  have a := H.no r (List.mem_of_getElem? hr)
  have b := H.no s (List.mem_of_getElem? hs)
  have c := H.nx6
  exact H.uq hr hs ((nI_eqI (by omega) (by omega)).mp e)
theorem gn_ex (I : List kL) : ∃ gn, GN I I.length gn := by
  have : ∀ g : Nat, ∃ x : Int64, ∀ (p : Nat) r, p < I.length → I[p]? = some r → bnm I p → nbn I p = g → x = nmI (lNm r) := fun g => by
    by_cases w : ∃ (p : Nat) (r : kL), I[p]? = some r ∧ bnm I p ∧ nbn I p = g
    · obtain ⟨p, r, hr, hb, e⟩ := w
      refine ⟨nmI (lNm r), fun p' r' hp' hr' hb' e' => ?_⟩
      have : p = p' := by
        apply Classical.byContradiction
        intro w
        have h1 := nbn_s1 hb
        have h2 := nbn_s1 hb'
        rcases Nat.lt_or_gt_of_ne w with y | y
        · have := nbn_mo (I := I) (show p + 1 ≤ p' by omega); omega
        · have := nbn_mo (I := I) (show p' + 1 ≤ p by omega); omega
      subst this
      rw [hr] at hr'
      cases hr'
      rfl
    · exact ⟨0, fun p r hp hr hb e => absurd ⟨p, r, hr, hb, e⟩ w⟩
  refine ⟨fun g => Classical.choose (this g), fun p r hp hr hb => ?_⟩
  exact Classical.choose_spec (this (nbn I p)) p r hp hr hb rfl
/-- how many names there are -/
theorem nm_len (O : ixO I) : ∃ L : List kW, nmS I L ∧ L.length = nbn I I.length := by
  obtain ⟨gn, N⟩ := gn_ex I
  obtain ⟨L, a, _, b⟩ := nm_ex O N
  exact ⟨L, b, a⟩
theorem nmS_uni {L M : List kW} (a : nmS I L) (b : nmS J M) (h : ∀ r, r ∈ I ↔ r ∈ J) : L = M :=
  srt_uni (fun a b x y => i64_as x y) a.1 b.1 (fun w => (a.2 w).trans ((show (∃ r ∈ I, lNm r = w) ↔ ∃ r ∈ J, lNm r = w from ⟨fun ⟨r, x, y⟩ => ⟨r, (h r).mp x, y⟩, fun ⟨r, x, y⟩ => ⟨r, (h r).mpr x, y⟩⟩).trans (b.2 w).symm))
theorem nd_len {α : Type} [DecidableEq α] : ∀ {l m : List α}, l.Nodup → (∀ x ∈ l, x ∈ m) → l.length ≤ m.length
  | [], m, _, _ => Nat.zero_le _
  | a :: l, m, h, s => by
    have ha : a ∈ m := s a (List.mem_cons_self ..)
    have h1 := List.nodup_cons.mp h
    have := nd_len (m := m.erase a) h1.2 (fun x hx => (List.mem_erase_of_ne (fun e => h1.1 (by rw [← e]; exact hx))).mpr (s x (List.mem_cons_of_mem _ hx)))
    have h3 := List.length_erase_of_mem ha
    have h4 := List.length_pos_of_mem ha
    rw [List.length_cons]
    omega
theorem nms_nd {L : List kW} (a : nmS I L) : L.Nodup := by
  unfold List.Nodup
  refine a.1.imp (fun {a b} x => ?_)
  intro e
  subst e
  exact i64_irr _ x
theorem alk_e (H : inv I J nx D K) {r : kL} (hr : okL' r) : alk I r = nmE J r := by
  unfold alk nmE
  rw [← H.pm.countP_eq]
  refine List.countP_congr (fun s hs => ?_)
  rw [decide_eq_true_eq, decide_eq_true_eq]
  exact ⟨nmI_inj (H.pt s hs).1.1 hr.1.1, fun e => by rw [e]⟩
theorem fl_i (H : inv I J nx D K) {r : kL} (hr : okL' r) : ¬ rmP I r ↔ flR J r := by
  have e1 := alk_e H hr
  have e2 := H.pm.length_eq
  have e3 := H.a5 r
  have e4 := H.ix.2.1
  have e5 := H.n8
  obtain ⟨L, h1, h2⟩ := nm_len H.ix
  have e6 : (∃ N, nmS J N ∧ N.length = 8) ↔ nbn I I.length = 8 := ⟨fun ⟨N, a, b⟩ => by rw [← h2, nmS_uni h1 a H.mm]; exact b, fun a => ⟨L, ⟨h1.1, fun w => (h1.2 w).trans ⟨fun ⟨r, x, y⟩ => ⟨r, (H.mm r).mp x, y⟩, fun ⟨r, x, y⟩ => ⟨r, (H.mm r).mpr x, y⟩⟩⟩, by omega⟩⟩
  unfold rmP flR
  rw [e6, ← e1, ← e2]
  omega
theorem th_i (H : inv I J nx D K) {r : kL} (hr : okL' r) : (∃ s ∈ I, oa s r = 0) ↔ ∃ s ∈ J, lNm s = lNm r ∧ vc (lVe s) (lVe r) = 0 :=
  ⟨fun ⟨s, a, b⟩ => ⟨s, (H.mm s).mp a, nmI_inj (H.pt s a).1.1 hr.1.1 (oa_eq.mp b).1, (oa_eq.mp b).2⟩, fun ⟨s, a, b, c⟩ => ⟨s, (H.mm s).mpr a, oa_eq.mpr ⟨by rw [b], c⟩⟩⟩
theorem gOK.up {nx nx' : Nat} (h : nx ≤ nx') {g : kG} (a : gOK nx g) : gOK nx' g := by
  obtain ⟨S, b, c, d, e⟩ := a
  exact ⟨S, b, c, d, fun r hr => ⟨(e r hr).1, by have := (e r hr).2; omega⟩⟩
theorem gOK.e {nx : Nat} {g : kG} (a : gOK nx g) {e : kL × Nat} (h : e ∈ g) : okL' e.1 ∧ lNo e.1 < nx := by
  obtain ⟨S, b, c, d, f⟩ := a
  subst b
  exact f _ (((arr_nd (nmP_nd c)).2 e.1).mp (List.mem_map.mpr ⟨e, h, rfl⟩))
theorem s_rel {ws : List kW} {v v2 : Option Value} {I' J' : List kL} {n1 n2 : Nat} (H : inv I J nx D K) (h6 : nx < 600) (a : rlQ ws I nx v I' n1) (b : rlR ws J nx v2 J' n2) : v2 = v ∧ n2 = n1 ∧ inv I' J' n1 D K := by
  rcases a with ⟨a1, a2, rfl, rfl⟩ | ⟨r, ar, a⟩
  · rcases b with ⟨b1, b2, rfl, rfl⟩ | ⟨r', br, _⟩
    · exact ⟨b2.trans a2.symm, rfl, H⟩
    · rw [a1] at br; cases br
  · rcases b with ⟨b1, _⟩ | ⟨r', br, b⟩
    · rw [ar] at b1; cases b1
    · rw [ar] at br
      cases br
      have ok := pRel_ok ar
      have nor := pRel_no ar
      rw [← th_i H ok, ← fl_i H ok] at b
      rcases a with ⟨a1, a2, rfl, rfl⟩ | ⟨a0, a1, a2, rfl, rfl⟩ | ⟨a0, a1, a2, rfl, p, hp, q1, q2, rfl⟩
      · rcases b with ⟨b1, b2, rfl, rfl⟩ | ⟨b0, _⟩ | ⟨b0, _⟩
        · exact ⟨b2.trans a2.symm, rfl, H⟩
        · exact absurd a1 b0
        · exact absurd a1 b0
      · rcases b with ⟨b0, _⟩ | ⟨_, b1, b2, rfl, rfl⟩ | ⟨_, b1, _⟩
        · exact absurd b0 a0
        · exact ⟨b2.trans a2.symm, rfl, H⟩
        · exact absurd a1 b1
      · rcases b with ⟨b0, _⟩ | ⟨_, b1, _⟩ | ⟨_, b1, b2, rfl, rfl⟩
        · exact absurd b0 a0
        · exact absurd a1 b1
        · refine ⟨b2.trans a2.symm, rfl, ?_⟩
          have pm1 : (I.take p ++ r :: I.drop p).Perm (r :: I) := by
            have := List.perm_middle (a := r) (l₁ := I.take p) (l₂ := I.drop p)
            rw [List.take_append_drop] at this
            exact this
          have mem1 : ∀ s, s ∈ I.take p ++ r :: I.drop p ↔ s = r ∨ s ∈ I := fun s => by rw [pm1.mem_iff, List.mem_cons]
          have ne0 : ∀ s ∈ I, oa s r < 0 ∨ oa r s < 0 := fun s hs => by
            rcases oa_tri s r with y | y | y
            · exact Or.inl y
            · exact absurd ⟨s, hs, y⟩ a0
            · exact Or.inr y
          have srt : (I.take p ++ r :: I.drop p).Pairwise (fun r s => oa r s < 0) := by
            have bef : ∀ s ∈ I.take p, oa s r < 0 := fun s hs => by
              obtain ⟨j, hj⟩ := gt_mem hs
              have hjp : j < p := by have := gt_lt hj; rw [List.length_take] at this; omega
              rw [List.getElem?_take, if_pos hjp] at hj
              obtain ⟨t, ht⟩ := gt_ex (show p - 1 < I.length by omega)
              have h1 : oa t r < 0 := (ne0 t (List.mem_of_getElem? ht)).resolve_right (q2 t (by omega) ht)
              by_cases e : j = p - 1
              · subst e; rw [hj] at ht; cases ht; exact h1
              · exact oa_tr (pw_lt H.ix.1 (show j < p - 1 by omega) hj ht) h1
            have aft : ∀ s ∈ I.drop p, oa r s < 0 := fun s hs => by
              obtain ⟨j, hj⟩ := gt_mem hs
              rw [List.getElem?_drop] at hj
              exact q1 (p + j) s (by omega) hj
            have h0 := H.ix.1
            rw [← List.take_append_drop p I, List.pairwise_append] at h0
            rw [List.pairwise_append, List.pairwise_cons]
            refine ⟨h0.1, ⟨aft, h0.2.1⟩, fun s hs t ht => ?_⟩
            rcases List.mem_cons.mp ht with y | y
            · subst y; exact bef s hs
            · exact h0.2.2 s hs t y
          have len1 : (I.take p ++ r :: I.drop p).length = I.length + 1 := pm1.length_eq
          have rm : rmP I r := a1
          have ok' : ∀ s ∈ I.take p ++ r :: I.drop p, okL' s := fun s hs => by
            rcases (mem1 s).mp hs with y | y
            · subst y; exact ok
            · exact H.pt s y
          have ix1 : ixO (I.take p ++ r :: I.drop p) := ⟨srt, by have := rm.1; omega, fun s hs => (ok' s hs).1⟩
          have alk1 : ∀ m, alk (I.take p ++ r :: I.drop p) m = alk I m + (if nmI (lNm r) = nmI (lNm m) then 1 else 0) := fun m => by
            unfold alk
            rw [pm1.countP_eq, List.countP_cons]
            by_cases y : nmI (lNm r) = nmI (lNm m)
            · rw [if_pos y, if_pos (decide_eq_true y)]
            · rw [if_neg y, if_neg (by rw [decide_eq_true_eq]; exact y)]
          obtain ⟨ρ, r1, r2⟩ := H.rh
          refine ⟨ix1, ?_, ?_, ?_, ok', ?_, H.ds, H.dn, ?_, fun g hg => (H.gk g hg).up (Nat.le_succ nx), by omega⟩
          · exact pm1.trans ((List.Perm.cons r H.pm).trans (List.perm_append_singleton r J).symm)
          · obtain ⟨L, l1, l2⟩ := nm_len H.ix
            obtain ⟨M, m1, m2⟩ := nm_len ix1
            rw [← m2]
            have l3 := H.n8
            by_cases z : 0 < alk I r
            · have : M.length ≤ L.length := nd_len (nms_nd m1) (fun w hw => by
                obtain ⟨s, hs, e⟩ := (m1.2 w).mp hw
                rcases (mem1 s).mp hs with y | y
                · subst y
                  unfold alk at z
                  obtain ⟨t, ht, e'⟩ := List.countP_pos_iff.mp z
                  rw [decide_eq_true_eq] at e'
                  exact (l1.2 w).mpr ⟨t, ht, by rw [← e]; exact nmI_inj (H.pt t ht).1.1 ok.1.1 e'⟩
                · exact (l1.2 w).mpr ⟨s, y, e⟩)
              omega
            · have : M.length ≤ (lNm r :: L).length := nd_len (nms_nd m1) (fun w hw => by
                obtain ⟨s, hs, e⟩ := (m1.2 w).mp hw
                rcases (mem1 s).mp hs with y | y
                · subst y; rw [e]; exact List.mem_cons_self ..
                · exact List.mem_cons_of_mem _ ((l1.2 w).mpr ⟨s, y, e⟩))
              rw [List.length_cons] at this
              have := rm.2.2
              omega
          · intro m
            rw [alk1]
            have h1 := H.a5 m
            split
            · rename_i y
              have : alk I m = alk I r := by unfold alk; rw [y]
              have := rm.2.1
              omega
            · omega
          · intro s hs
            rcases (mem1 s).mp hs with y | y
            · subst y; rw [nor]; omega
            · have := H.no s y; omega
          · refine ⟨fun n => if n = nx then r else ρ n, fun s hs => ?_, fun g hg e he => ?_⟩
            · rcases (mem1 s).mp hs with y | y
              · subst y; exact if_pos nor
              · exact (if_neg (by have := H.no s y; omega)).trans (r1 s y)
            · exact (if_neg (by have := ((H.gk g hg).e he).2; omega)).trans (r2 g hg e he)
theorem s_drop {w : Int32} {p : Nat} {r : kL} {v : Option Value} {J' : List kL} (H : inv I J nx D K) (hr : I[p]? = some r) (e : nI (lNo r) = w) (b : dpR J w v J') : v = some (.int (nI (I.length - 1))) ∧ inv (I.eraseIdx p) J' nx D K := by
  have un := H.un
  have ee : I.eraseIdx p = dpF w I := by
    unfold dpF
    have hp := gt_lt hr
    obtain ⟨A, B, hA, hI⟩ : ∃ A B, A.length = p ∧ I = A ++ r :: B := ⟨I.take p, I.drop (p + 1), by rw [List.length_take]; omega, by
      obtain ⟨_, h2⟩ := List.getElem?_eq_some_iff.mp hr
      rw [← h2, List.getElem_cons_drop, List.take_append_drop]⟩
    subst hA
    have fA : ∀ (l : List kL), (∀ s ∈ l, ¬ nI (lNo s) = w) → l.filter (fun r => !decide (nI (lNo r) = w)) = l := fun l h => List.filter_eq_self.mpr (fun s hs => by rw [decide_eq_false (h s hs)]; rfl)
    have nA : ∀ s ∈ A, ¬ nI (lNo s) = w := fun s hs y => by
      obtain ⟨j, hj⟩ := gt_mem hs
      have hj' : I[j]? = some s := by rw [hI, List.getElem?_append_left (gt_lt hj)]; exact hj
      have := un j A.length s r hj' hr (y.trans e.symm)
      have := gt_lt hj
      omega
    have nB : ∀ s ∈ B, ¬ nI (lNo s) = w := fun s hs y => by
      obtain ⟨j, hj⟩ := gt_mem hs
      have hj' : I[A.length + 1 + j]? = some s := by
        rw [hI, List.getElem?_append_right (by omega), show A.length + 1 + j - A.length = j + 1 by omega]
        exact hj
      have := un _ A.length s r hj' hr (y.trans e.symm)
      omega
    rw [hI, List.eraseIdx_append_of_length_le (Nat.le_refl _), Nat.sub_self, List.eraseIdx_cons_zero, List.filter_append, List.filter_cons_of_neg (by rw [decide_eq_true e]; decide), fA A nA, fA B nB]
  have pm : (dpF w I).Perm (dpF w J) := H.pm.filter _
  have hl : (I.eraseIdx p).length = I.length - 1 := List.length_eraseIdx_of_lt (gt_lt hr)
  have sub : (I.eraseIdx p).Sublist I := List.eraseIdx_sublist ..
  rcases b with ⟨b1, _⟩ | ⟨_, b2, rfl⟩
  · exact absurd e (b1 r ((H.mm r).mp (List.mem_of_getElem? hr)))
  · refine ⟨by rw [b2, ← pm.length_eq, ← ee, hl], ?_⟩
    have ix1 : ixO (I.eraseIdx p) := ⟨H.ix.1.sublist sub, by have := H.ix.2.1; omega, fun s hs => H.ix.2.2 s (sub.subset hs)⟩
    obtain ⟨ρ, r1, r2⟩ := H.rh
    refine ⟨ix1, by rw [ee]; exact pm, ?_, fun m => ?_, fun s hs => H.pt s (sub.subset hs), fun s hs => H.no s (sub.subset hs), H.ds, H.dn, ⟨ρ, fun s hs => r1 s (sub.subset hs), r2⟩, H.gk, H.nx6⟩
    · obtain ⟨L, l1, l2⟩ := nm_len H.ix
      obtain ⟨M, m1, m2⟩ := nm_len ix1
      have := H.n8
      have : M.length ≤ L.length := nd_len (nms_nd m1) (fun w hw => by
        obtain ⟨s, hs, e⟩ := (m1.2 w).mp hw
        exact (l1.2 w).mpr ⟨s, sub.subset hs, e⟩)
      omega
    · have h1 := H.a5 m
      have h2 : alk (I.eraseIdx p) m ≤ alk I m := sub.countP_le
      omega
theorem s_drop0 {w : Int32} {v : Option Value} {J' : List kL} (H : inv I J nx D K) (h : ∀ r ∈ I, ¬ nI (lNo r) = w) (b : dpR J w v J') : v = some (.int (-2)) ∧ J' = J := by
  rcases b with ⟨_, b2, b3⟩ | ⟨⟨r, hr, e⟩, _⟩
  · exact ⟨b2, b3⟩
  · exact absurd e (h r ((H.mm r).mpr hr))
end MB1
