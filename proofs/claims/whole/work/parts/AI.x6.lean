/-! MATHEMATICS, 6: the choice finds what is to be found. -/
section MA7
variable {I : List kL} {D : kD} {gn : Nat → Int64} {riv ned : Nat → Nat → Prop} {rg op : Nat → Prop} {li : Prop}
theorem ls_ch {α : Type} {P : Nat → α → Prop} : ∀ n, (∀ g, g < n → ∃ x, P g x) → ∃ L : List α, L.length = n ∧ ∀ g x, L[g]? = some x → P g x
  | 0, _ => ⟨[], rfl, fun g x h => by simp at h⟩
  | n + 1, h => by
    obtain ⟨L, a, b⟩ := ls_ch n (fun g hg => h g (by omega))
    obtain ⟨y, hy⟩ := h n (Nat.lt_succ_self n)
    refine ⟨L ++ [y], by rw [List.length_append, a]; rfl, fun g x hx => ?_⟩
    by_cases q : g < L.length
    · rw [List.getElem?_append_left q] at hx; exact b g x hx
    · rw [List.getElem?_append_right (by omega)] at hx
      have := gt_lt hx
      simp only [List.length_singleton] at this
      have e : g = n := by omega
      subst e
      rw [show g - L.length = 0 by omega] at hx
      cases hx
      exact hy
theorem pkL_in (fo : Nat → Prop) : ∀ n r, r ∈ pkL I fo n ↔ ∃ q, q < n ∧ fo q ∧ I[q]? = some r
  | 0, r => ⟨fun h => (by cases h), fun ⟨q, h, _⟩ => (by omega)⟩
  | n + 1, r => by
    by_cases h : fo n
    · cases e : I[n]? with
      | none =>
        have : pkL I fo (n + 1) = pkL I fo n := by rw [pkL, if_pos h, e, List.append_nil]
        rw [this, pkL_in fo n r]
        refine ⟨fun ⟨q, a, b⟩ => ⟨q, by omega, b⟩, fun ⟨q, a, b, c⟩ => ⟨q, ?_, b, c⟩⟩
        by_cases y : q = n
        · subst y; rw [e] at c; cases c
        · omega
      | some s =>
        rw [pkL_t e h, List.mem_append, pkL_in fo n r]
        constructor
        · rintro (⟨q, a, b⟩ | y)
          · exact ⟨q, by omega, b⟩
          · rw [List.mem_singleton] at y
            subst y
            exact ⟨n, Nat.lt_succ_self n, h, e⟩
        · rintro ⟨q, a, b, c⟩
          by_cases y : q = n
          · subst y; rw [e] at c; cases c; exact Or.inr (List.mem_singleton.mpr rfl)
          · exact Or.inl ⟨q, by omega, b, c⟩
    · rw [pkL_f h, pkL_in fo n r]
      refine ⟨fun ⟨q, a, b⟩ => ⟨q, by omega, b⟩, fun ⟨q, a, b, c⟩ => ⟨q, ?_, b, c⟩⟩
      by_cases y : q = n
      · subst y; exact absurd b h
      · omega
theorem pkL_pw {R : kL → kL → Prop} (hI : I.Pairwise R) (fo : Nat → Prop) : ∀ n, (pkL I fo n).Pairwise R
  | 0 => List.Pairwise.nil
  | n + 1 => by
    by_cases h : fo n
    · cases e : I[n]? with
      | none => rw [pkL, if_pos h, e, List.append_nil]; exact pkL_pw hI fo n
      | some s =>
        rw [pkL_t e h, List.pairwise_append]
        refine ⟨pkL_pw hI fo n, List.pairwise_singleton _ _, fun a ha b hb => ?_⟩
        obtain ⟨q, a1, a2, a3⟩ := (pkL_in fo n a).mp ha
        rw [List.mem_singleton] at hb
        subst hb
        exact pw_lt hI a1 a3 e
    · rw [pkL_f h]; exact pkL_pw hI fo n
theorem pkL_inS {fo : Nat → Prop} (h : ∀ q, fo q → q < I.length) : inS I fo (pkL I fo I.length) := fun r => by
  rw [pkL_in]
  exact ⟨fun ⟨q, a, b⟩ => ⟨q, b⟩, fun ⟨q, a, b⟩ => ⟨q, h q a, a, b⟩⟩
theorem mtD_cg {S S' : List kL} (h : ∀ r, r ∈ S ↔ r ∈ S') (e : kW × kR) : mtD S e ↔ mtD S' e :=
  ⟨fun ⟨r, a, b⟩ => ⟨r, (h r).mp a, b⟩, fun ⟨r, a, b⟩ => ⟨r, (h r).mpr a, b⟩⟩
theorem rcn_cg {S S' : List kL} (h : ∀ r, r ∈ S → r ∈ S') : ∀ n r, rcn D S n r → rcn D S' n r
  | 0, _, x => x
  | n + 1, r, x => by
    rcases x with x | ⟨a, x⟩
    · exact Or.inl (rcn_cg h n r x)
    · refine Or.inr ⟨h r a, ?_⟩
      rcases x with x | ⟨s, b, c, y⟩
      · exact Or.inl x
      · exact Or.inr ⟨s, h s b, rcn_cg h n s c, y⟩
theorem vl_to {S S' : List kL} (h : ∀ r, r ∈ S ↔ r ∈ S') (V : vl D S) : vl D S' :=
  ⟨fun e he => (mtD_cg h e).mp (V.1 e he), fun r hr => ⟨fun e he => (mtD_cg h e).mp ((V.2.1 r ((h r).mpr hr)).1 e he), fun e he y => (V.2.1 r ((h r).mpr hr)).2 e he ((mtD_cg h e).mpr y)⟩, fun r hr => by
    obtain ⟨n, x⟩ := V.2.2 r ((h r).mpr hr)
    exact ⟨n, rcn_cg (fun r => (h r).mp) n r x⟩⟩
theorem fm_in {A : List (Option kL)} {r : kL} : r ∈ A.filterMap id ↔ ∃ k : Nat, A[k]? = some (some r) := by
  rw [List.mem_filterMap]
  constructor
  · rintro ⟨a, h, e⟩
    obtain ⟨k, hk⟩ := gt_mem h
    exact ⟨k, by rw [hk]; exact congrArg some e⟩
  · rintro ⟨k, hk⟩
    exact ⟨some r, List.mem_of_getElem? hk, rfl⟩
theorem fm_pw {R : kL → kL → Prop} : ∀ {A : List (Option kL)}, (∀ (i j : Nat) r s, i < j → A[i]? = some (some r) → A[j]? = some (some s) → R r s) → (A.filterMap id).Pairwise R
  | [], _ => List.Pairwise.nil
  | none :: A, h => by
    rw [List.filterMap_cons_none rfl]
    exact fm_pw (fun i j r s hij a b => h (i + 1) (j + 1) r s (by omega) a b)
  | some r :: A, h => by
    rw [show (some r :: A).filterMap id = r :: A.filterMap id from rfl, List.pairwise_cons]
    refine ⟨fun s hs => ?_, fm_pw (fun i j r s hij a b => h (i + 1) (j + 1) r s (by omega) a b)⟩
    obtain ⟨k, hk⟩ := fm_in.mp hs
    exact h 0 (k + 1) r s (by omega) rfl hk
/-- the names, in their order -/
theorem nm_ex (O : ixO I) (N : GN I I.length gn) : ∃ L : List kW, L.length = lG I ∧ (∀ g w, L[g]? = some w → gn g = nmI w ∧ ∃ q r, lM I g q ∧ I[q]? = some r ∧ lNm r = w) ∧ nmS I L := by
  obtain ⟨L, a, b⟩ := ls_ch (P := fun g (w : kW) => ∃ q r, lM I g q ∧ I[q]? = some r ∧ lNm r = w) (lG I) (fun g hg => by
    obtain ⟨p, r, x, y⟩ := gp_mem hg
    exact ⟨lNm r, p, r, x, y, rfl⟩)
  have b' : ∀ g w, L[g]? = some w → gn g = nmI w ∧ ∃ q r, lM I g q ∧ I[q]? = some r ∧ lNm r = w := fun g w h => by
    obtain ⟨q, r, x, y, z⟩ := b g w h
    exact ⟨by rw [← z]; exact gp_nm N x y, q, r, x, y, z⟩
  refine ⟨L, a, b', ?_, fun w => ⟨fun h => ?_, fun ⟨r, hr, e⟩ => ?_⟩⟩
  · rw [List.pairwise_iff_getElem]
    intro i j hi hj hij
    obtain ⟨q, r, x, y, z⟩ := b i _ (List.getElem?_eq_getElem hi)
    obtain ⟨q', r', x', y', z'⟩ := b j _ (List.getElem?_eq_getElem hj)
    rw [← z, ← z']
    have hq : q < q' := by
      apply Classical.byContradiction
      intro w
      have : nbn I (q' + 1) ≤ nbn I (q + 1) := nbn_mo (by omega)
      have := x.2
      have := x'.2
      omega
    rcases ix_le O (Nat.le_of_lt hq) y y' with c | c
    · exact c
    · have := gp_sm O y q' r' (Nat.le_of_lt hq) y' c
      have := x.2
      have := x'.2
      omega
  · obtain ⟨g, hg⟩ := gt_mem h
    obtain ⟨_, q, r, x, y, z⟩ := b' g w hg
    exact ⟨r, List.mem_of_getElem? y, z⟩
  · obtain ⟨q, hq⟩ := gt_mem hr
    obtain ⟨m1, m2⟩ := mem_at (gt_lt hq)
    obtain ⟨w', hw'⟩ := gt_ex (show nbn I (q + 1) - 1 < L.length by omega)
    obtain ⟨e1, q', r', x, y, z⟩ := b' _ w' hw'
    have e2 := gp_nm N m1 hq
    have : w' = w := by
      rw [← z, ← e]
      refine nmI_inj (ix_nm O y) (ix_nm O hq) ?_
      rw [z, ← e1, e2]
    rw [← this]
    exact List.mem_of_getElem? hw'
theorem asg_fm {J : List kL} {L : List kW} {A : List (Option kL)} (hL : L.Pairwise (fun a b => nmI a < nmI b)) (hA : asg J L A) : (A.filterMap id).Pairwise (fun r s => nmI (lNm r) < nmI (lNm s)) :=
  fm_pw (fun i j r s hij a b => pw_lt hL hij (hA.2 i r a).2 (hA.2 j s b).2)
/-- the choice and the search agree -/
theorem fnd_of {so : Prop} {fo : Nat → Prop} (O : ixO I) (hD : ∀ e ∈ D, smW e.1) (S : lSS I D gn riv ned rg op li so fo) : (so → fnd I D (some (pkL I fo I.length)) ∧ (∀ q, fo q → q < I.length) ∧ unq I fo) ∧ (¬ so → fnd I D none) := by
  obtain ⟨L, S⟩ := S
  have K := gok O L
  obtain ⟨N, hN1, hN2, hN3⟩ := nm_ex O L.1
  have n32 := O.2.1
  have hc : cho I.length (lG I) (lM I) riv ned rg (lG I) (fun _ => False) op = cho I.length (lG I) (lM I) riv ned rg (lG I) (fun _ => False) (fun q => op q ∧ q < I.length) := cho_cg n32 _ _ (fun q hq => ⟨fun y => ⟨y, ((L.2.2.2.2.2 q hq).mp y).1.1.1⟩, fun y => y.1⟩)
  have CS := cho_sp K (ned := ned) (rg := rg) (lG I) (fun _ => False) (fun q => op q ∧ q < I.length) (Nat.le_refl _) (fun q h => ⟨h, h.2⟩) (fun q g _ h => by omega) (fun p q h => absurd h id) (fun p h => absurd h id)
  rw [← hc] at CS
  have ag : ∀ s, (∀ q, s q → op q ∧ q < I.length) → agr (lG I) (lM I) (lG I) (fun _ => False) (fun q => op q ∧ q < I.length) s := fun s h => ⟨fun q y => absurd y id, h, fun q g _ y => by omega⟩
  -- an assignment as places
  have toS : ∀ A, asg I N A → vl D (A.filterMap id) → ∃ s : Nat → Prop, (∀ q, s q ↔ ∃ (g : Nat) (r : kL), A[g]? = some (some r) ∧ I[q]? = some r ∧ lM I g q) ∧ li ∧ vlp I.length (lG I) (lM I) riv ned rg (fun q => op q ∧ q < I.length) s := fun A hA V => by
    refine ⟨fun q => ∃ (g : Nat) (r : kL), A[g]? = some (some r) ∧ I[q]? = some r ∧ lM I g q, fun q => Iff.rfl, ?_⟩
    refine (vlp_i O L hD (S := A.filterMap id) ?_ (fun q ⟨g, r, _, h, _⟩ => gt_lt h)).mpr ⟨?_, V⟩
    · intro r
      rw [fm_in]
      constructor
      · rintro ⟨g, hg⟩
        obtain ⟨h1, h2⟩ := hA.2 g r hg
        obtain ⟨q, hq⟩ := gt_mem h1
        exact ⟨q, ⟨g, r, hg, hq, (mem_i O L.1 (by have := gt_lt h2; omega) hq).mpr (hN2 g _ h2).1⟩, hq⟩
      · rintro ⟨q, ⟨g, r', a, b, _⟩, c⟩
        rw [b] at c
        cases c
        exact ⟨g, a⟩
    · rintro p q r t ⟨g, r', a, b, c⟩ ⟨g', t', a', b', c'⟩ hr ht e
      rw [b] at hr
      rw [b'] at ht
      cases hr
      cases ht
      have e1 := gp_nm L.1 c b
      have e2 := gp_nm L.1 c' b'
      rw [e, ← e2] at e1
      have hg : g < lG I := by have := gt_lt a; have := hA.1; omega
      have hg' : g' < lG I := by have := gt_lt a'; have := hA.1; omega
      have := gn_inj O L.1 hg hg' e1
      subst this
      rw [a] at a'
      cases a'
      apply Classical.byContradiction
      intro w
      rcases Nat.lt_or_gt_of_ne w with z | z
      · exact oa_as (pw_lt O.1 z b b') (pw_lt O.1 z b b')
      · exact oa_as (pw_lt O.1 z b' b) (pw_lt O.1 z b' b)
  constructor
  · intro hso
    have hcs : li ∧ cho I.length (lG I) (lM I) riv ned rg (lG I) (fun _ => False) op = some fo := by
      rcases S with ⟨_, a, b⟩ | ⟨a, _⟩
      · exact ⟨a, b⟩
      · exact absurd hso a
    obtain ⟨V0, A0, U0⟩ := CS.2 fo hcs.2
    have hfo : ∀ q, fo q → q < I.length := fun q h => (V0.1 q h).2
    have hSf : inS I fo (pkL I fo I.length) := pkL_inS hfo
    obtain ⟨hU, hV⟩ := (vlp_i O L hD hSf hfo).mp ⟨hcs.1, V0⟩
    refine ⟨?_, hfo, hU⟩
    obtain ⟨A, hA1, hA2⟩ := ls_ch (P := fun g (x : Option kL) => match x with | none => ∀ q, lM I g q → ¬ fo q | some r => ∃ q, lM I g q ∧ fo q ∧ I[q]? = some r) (lG I) (fun g hg => by
      by_cases w : ∃ q, lM I g q ∧ fo q
      · obtain ⟨q, a, b⟩ := w
        obtain ⟨r, hr⟩ := gt_ex a.1
        exact ⟨some r, q, a, b, hr⟩
      · exact ⟨none, fun q a b => w ⟨q, a, b⟩⟩)
    have hA3 : ∀ g r, A[g]? = some (some r) ↔ g < lG I ∧ ∃ q, lM I g q ∧ fo q ∧ I[q]? = some r := fun g r => by
      refine ⟨fun h => ⟨by have := gt_lt h; omega, hA2 g _ h⟩, fun ⟨hg, q, a, b, c⟩ => ?_⟩
      obtain ⟨x, hx⟩ := gt_ex (show g < A.length by omega)
      have h2 := hA2 g x hx
      cases x with
      | none => exact absurd b (h2 q a)
      | some r' =>
        obtain ⟨q', a', b', c'⟩ := h2
        have e1 := gp_nm L.1 a c
        have e2 := gp_nm L.1 a' c'
        have := hU q q' r r' b b' c c' (nmI_inj (ix_nm O c) (ix_nm O c') (e1.symm.trans e2))
        subst this
        rw [c] at c'
        cases c'
        exact hx
    have hasg : asg I N A := ⟨by omega, fun g r h => by
      obtain ⟨hg, q, a, b, c⟩ := (hA3 g r).mp h
      refine ⟨List.mem_of_getElem? c, ?_⟩
      obtain ⟨w, hw⟩ := gt_ex (show g < N.length by omega)
      obtain ⟨e1, q', r', x, y, z⟩ := hN2 g w hw
      have e2 := gp_nm L.1 a c
      rw [hw, ← z]
      congr 1
      exact nmI_inj (ix_nm O y) (ix_nm O c) (by rw [z, ← e1, e2])⟩
    have hin : ∀ r, r ∈ A.filterMap id ↔ r ∈ pkL I fo I.length := fun r => by
      rw [fm_in, hSf r]
      constructor
      · rintro ⟨g, h⟩
        obtain ⟨_, q, _, b, c⟩ := (hA3 g r).mp h
        exact ⟨q, b, c⟩
      · rintro ⟨q, b, c⟩
        obtain ⟨m1, m2⟩ := mem_at (gt_lt c)
        exact ⟨_, (hA3 _ r).mpr ⟨m2, q, m1, b, c⟩⟩
    have hB : pkL I fo I.length = A.filterMap id := by
      refine srt_uni (R := fun r s => nmI (lNm r) < nmI (lNm s)) (fun a b x y => i64_as x y) ?_ (asg_fm hN3.1 hasg) (fun r => (hin r).symm)
      refine (pkL_pw (R := fun r s => oa r s < 0) O.1 fo I.length).imp_of_mem (fun {a b} ha hb h => ?_)
      obtain ⟨q, h1, h2⟩ := (hSf a).mp ha
      obtain ⟨q', h1', h2'⟩ := (hSf b).mp hb
      rcases oa_lt.mp h with y | ⟨y, y'⟩
      · exact y
      · have := hU q q' a b h1 h1' h2 h2' (nmI_inj (ix_nm O h2) (ix_nm O h2') y)
        subst this
        rw [h2] at h2'
        cases h2'
        exact absurd h (fun z => oa_as z z)
    refine ⟨N, hN3, A, hasg, hB, hV, fun A' hA' V' => ?_⟩
    obtain ⟨s, hs, _, Vs⟩ := toS A' hA' V'
    have hs2 : ∀ q g r, g < lG I → lM I g q → I[q]? = some r → (s q ↔ A'[g]? = some (some r)) := fun q g r hg hm hr => by
      rw [hs]
      constructor
      · rintro ⟨g', r', a, b, c⟩
        rw [hr] at b
        cases b
        have := K.mu _ _ _ hm c
        subst this
        exact a
      · exact fun h => ⟨g, r, h, hr, hm⟩
    have hf2 : ∀ q g r, g < lG I → lM I g q → I[q]? = some r → (fo q ↔ A[g]? = some (some r)) := fun q g r hg hm hr => by
      rw [hA3]
      refine ⟨fun h => ⟨hg, q, hm, h, hr⟩, fun ⟨_, q', a, b, c⟩ => ?_⟩
      have : q' = q := by
        apply Classical.byContradiction
        intro w
        rcases Nat.lt_or_gt_of_ne w with z | z
        · exact oa_as (pw_lt O.1 z c hr) (pw_lt O.1 z c hr)
        · exact oa_as (pw_lt O.1 z hr c) (pw_lt O.1 z hr c)
      rw [← this]; exact b
    have eqA : ∀ g, (∀ q, lM I g q → (fo q ↔ s q)) → A[g]? = A'[g]? := fun g h => by
      by_cases hg : g < lG I
      · obtain ⟨x, hx⟩ := gt_ex (show g < A.length by omega)
        obtain ⟨y, hy⟩ := gt_ex (show g < A'.length by have := hA'.1; omega)
        rw [hx, hy]
        congr 1
        cases x with
        | none =>
          cases y with
          | none => rfl
          | some r =>
            exfalso
            obtain ⟨h1, h2⟩ := hA'.2 g r hy
            obtain ⟨q, hq⟩ := gt_mem h1
            have hm := (mem_i O L.1 hg hq).mpr (hN2 g _ h2).1
            exact (hA2 g none hx) q hm ((h q hm).mpr ((hs2 q g r hg hm hq).mpr hy))
        | some r =>
          obtain ⟨_, q, hm, hq, hr⟩ := (hA3 g r).mp hx
          have := (hs2 q g r hg hm hr).mp ((h q hm).mp hq)
          rw [hy] at this
          cases this
          rfl
      · rw [List.getElem?_eq_none (by omega), List.getElem?_eq_none (by have := hA'.1; omega)]
    rcases U0 s Vs (ag s (fun q h => (Vs.1 q h).1)) with y | ⟨g, hg, hb, p, hm, hp, hq⟩
    · left
      apply List.ext_getElem?
      intro g
      exact (eqA g (fun q _ => (y q).symm)).symm
    · right
      refine ⟨g, fun j hj => eqA j (fun q hm' => hb j hj q hm'), ?_⟩
      obtain ⟨x, hx⟩ := gt_ex (show g < A.length by omega)
      obtain ⟨t, ht⟩ := gt_ex hm.1
      have hy := (hs2 p g t hg hm ht).mp hp
      refine ⟨x, some t, hx, hy, ?_⟩
      cases x with
      | none => trivial
      | some r =>
        obtain ⟨_, q, hm', hq', hr⟩ := (hA3 g r).mp hx
        have h1 := pw_lt O.1 (hq q hm' hq') hr ht
        rcases oa_lt.mp h1 with z | z
        · rw [← gp_nm L.1 hm' hr, ← gp_nm L.1 hm ht] at z
          exact absurd z (i64_irr _)
        · exact z.2
  · intro hso
    refine ⟨N, hN3, fun A hA V => ?_⟩
    obtain ⟨s, hs, hli, Vs⟩ := toS A hA V
    rcases S with ⟨a, _⟩ | ⟨_, b | b⟩
    · exact hso a
    · exact b hli
    · exact CS.1 b s Vs (ag s (fun q h => (Vs.1 q h).1))
end MA7
