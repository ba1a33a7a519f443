/-! THE REFERENCE, 29: the search. -/
def pre (A B : List (Option kL)) : Prop := ∀ i, i < A.length → B[i]? = A[i]?
def asgp (J : List kL) (N : List kW) (A : List (Option kL)) : Prop := A.length ≤ N.length ∧ ∀ (k : Nat) r, A[k]? = some (some r) → r ∈ J ∧ N[k]? = some (lNm r)
def noV (J : List kL) (D : kD) (N : List kW) (A : List (Option kL)) : Prop := ∀ B, asg J N B → pre A B → ¬ vl D (B.filterMap id)
theorem nmS_ix {J : List kL} {N : List kW} (C : nmS J N) {i j : Nat} {u : kW} (hi : N[i]? = some u) (hj : N[j]? = some u) : i = j := by
  apply Classical.byContradiction
  intro w
  rcases Nat.lt_or_gt_of_ne w with y | y
  · exact i64_irr _ (pw_lt C.1 y hi hj)
  · exact i64_irr _ (pw_lt C.1 y hj hi)
theorem asg_ds {J : List kL} {N : List kW} {B : List (Option kL)} (C : nmS J N) (a : asgp J N B) : dsA B := fun i j r s hi hj e => nmS_ix C (a.2 i r hi).2 (by rw [e]; exact (a.2 j s hj).2)
theorem pre_at {A B : List (Option kL)} (p : pre A B) {i : Nat} {x : Option kL} (h : A[i]? = some x) : B[i]? = some x := (p i (gt_lt h)).trans h
theorem pre_sn {A B : List (Option kL)} {x : Option kL} (p : pre A B) (h : B[A.length]? = some x) : pre (A ++ [x]) B := fun i hi => by
  rw [List.length_append, List.length_singleton] at hi
  by_cases q : i < A.length
  · rw [List.getElem?_append_left q]; exact p i q
  · have : i = A.length := by omega
    subst this
    rw [h, List.getElem?_append_right (Nat.le_refl _), Nat.sub_self]; rfl
theorem pre_of {A B : List (Option kL)} {x : Option kL} (p : pre (A ++ [x]) B) : pre A B := fun i hi => by
  rw [p i (by rw [List.length_append]; omega), List.getElem?_append_left hi]
theorem pre_l {A B : List (Option kL)} {x : Option kL} (p : pre (A ++ [x]) B) : B[A.length]? = some x := pre_at p (by rw [List.getElem?_append_right (Nat.le_refl _), Nat.sub_self]; rfl)
theorem hp_no {J : List kL} {D : kD} {N : List kW} {A : List (Option kL)} (C : nmS J N) (a : hpN N A) : noV J D N A := fun B b p V => by
  obtain ⟨k, r, hr, q⟩ := a
  have hr' := pre_at p hr
  have rS : r ∈ B.filterMap id := fm_in.mpr ⟨k, hr'⟩
  rcases q with ⟨e, he, j, hj, q⟩ | ⟨e, he, j, s, hs, q1, q2⟩
  · obtain ⟨s, hs, s1, s2⟩ := (V.2.1 r rS).1 e he
    obtain ⟨i, hi⟩ := fm_in.mp hs
    have e1 := (b.2 i s hi).2
    rw [s1] at e1
    have := nmS_ix C hj e1
    subst this
    rcases q with q | ⟨t, q, q'⟩
    · have := pre_at p q
      rw [hi] at this
      cases this
    · have := pre_at p q
      rw [hi] at this
      cases this
      exact q' s2
  · exact (V.2.1 r rS).2 e he ⟨s, fm_in.mpr ⟨j, pre_at p hs⟩, q1, q2⟩
theorem ro_no {J : List kL} {D : kD} {N : List kW} {A : List (Option kL)} {e : kW × kR} (C : nmS J N) (he : e ∈ D) (hn : N[A.length]? = some e.1) : noV J D N (A ++ [none]) := fun B b p V => by
  obtain ⟨s, hs, s1, s2⟩ := V.1 e he
  obtain ⟨i, hi⟩ := fm_in.mp hs
  have e1 := (b.2 i s hi).2
  rw [s1] at e1
  have := nmS_ix C hn e1
  subst this
  rw [pre_l p] at hi
  cases hi
theorem in_no {J : List kL} {D : kD} {N : List kW} {A : List (Option kL)} {e : kW × kR} {r : kL} (C : nmS J N) (he : e ∈ D) (hn : N[A.length]? = some e.1) (q : ¬ rP (lVe r) e.2) : noV J D N (A ++ [some r]) := fun B b p V => by
  obtain ⟨s, hs, s1, s2⟩ := V.1 e he
  obtain ⟨i, hi⟩ := fm_in.mp hs
  have e1 := (b.2 i s hi).2
  rw [s1] at e1
  have := nmS_ix C hn e1
  subst this
  rw [pre_l p] at hi
  cases hi
  exact q s2
theorem lxb_at {A B B' : List (Option kL)} {x y : Option kL} (p : pre A B) (p' : pre A B') (h : B[A.length]? = some x) (h' : B'[A.length]? = some y) (q : bfr x y) : lxb B B' := ⟨A.length, fun j hj => (p j hj).trans (p' j hj).symm, x, y, h, h', q⟩
theorem yA.sn {h h' : List va_E} {ad : Nat → Nat} {F : Nat → Option Nat} {A : List (Option kL)} {x : Option kL} {f : Option Nat} (C : yA h ad 33 F A) (E : ex_ h h') (c : h'[33]? = some (.inl (10, 8, .inr (.inr (.inr (.inr (va_up F A.length f))))))) (hl : A.length < 8) (y : yE h' ad f x) : yA h' ad 33 (va_up F A.length f) (A ++ [x]) := by
  refine ⟨c, by rw [List.length_append]; exact hl, fun i u hu => ?_⟩
  unfold va_up
  by_cases q : i < A.length
  · rw [List.getElem?_append_left q] at hu
    rw [if_neg (by omega)]
    exact (C.2.2 i u hu).ex E
  · have := gt_lt hu
    rw [List.length_append, List.length_singleton] at this
    have : i = A.length := by omega
    subst this
    rw [List.getElem?_append_right (Nat.le_refl _), Nat.sub_self] at hu
    cases hu
    rw [if_pos rfl]
    exact y
theorem yA.pr {h : List va_E} {ad : Nat → Nat} {sa : Nat} {F : Nat → Option Nat} {A : List (Option kL)} {x : Option kL} (C : yA h ad sa F (A ++ [x])) : yA h ad sa F A := ⟨C.1, by have := C.2.1; rw [List.length_append] at this; omega, fun i u hu => C.2.2 i u (by rw [List.getElem?_append_left (gt_lt hu)]; exact hu)⟩
def jU (J : List kL) : Prop := ∀ r s, r ∈ J → s ∈ J → lNm r = lNm s → vc (lVe r) (lVe s) = 0 → r = s
noncomputable def blc (J : List kL) (w : kW) (cur : Option kL) : Nat := match cur with
  | none => 0
  | some r => 1 + J.countP (fun s => decide (lNm s = w ∧ vc (lVe s) (lVe r) < 0))
theorem cnt_lt {α : Type} {p q : α → Bool} : ∀ {L : List α}, (∀ x ∈ L, p x = true → q x = true) → (∃ x ∈ L, q x = true ∧ ¬ p x = true) → L.countP p < L.countP q
  | [], _, ⟨x, hx, _⟩ => by cases hx
  | a :: L, h, ⟨x, hx, h1, h2⟩ => by
    have hL : L.countP p ≤ L.countP q := List.countP_mono_left (fun y hy => h y (List.mem_cons_of_mem _ hy))
    rw [List.countP_cons, List.countP_cons]
    rcases List.mem_cons.mp hx with y | y
    · subst y
      rw [if_pos h1, if_neg h2]
      omega
    · have := cnt_lt (L := L) (fun y hy => h y (List.mem_cons_of_mem _ hy)) ⟨x, y, h1, h2⟩
      by_cases pa : p a = true
      · rw [if_pos pa, if_pos (h a (List.mem_cons_self ..) pa)]; omega
      · rw [if_neg pa]; split <;> omega
theorem blc_lt {J : List kL} {w : kW} {r : kL} {res : Option kL} (C : nwS J w (some r) res) : blc J w res < blc J w (some r) := by
  cases res with
  | none => show 0 < _; unfold blc; dsimp only; omega
  | some s =>
    unfold blc
    dsimp only
    have : J.countP (fun t => decide (lNm t = w ∧ vc (lVe t) (lVe s) < 0)) < J.countP (fun t => decide (lNm t = w ∧ vc (lVe t) (lVe r) < 0)) := by
      refine cnt_lt (fun t _ q => ?_) ⟨s, C.1, ?_, ?_⟩
      · rw [decide_eq_true_eq] at q ⊢
        exact ⟨q.1, vc_tr q.2 C.2.2.1⟩
      · rw [decide_eq_true_eq]; exact ⟨C.2.1, C.2.2.1⟩
      · rw [decide_eq_true_eq]
        rintro ⟨_, q⟩
        have := vc_sy (lVe s) (lVe s)
        rcases vc3 (lVe s) (lVe s) with y | y | y <;> rw [y] at this q <;> first | exact absurd this (by decide) | exact absurd q (by decide)
    omega
def sC (h : List va_E) (ad : Nat → Nat) (J : List kL) (D : kD) (N : List kW) (x y z md kc gn sp bc kn : Int32) : Prop := h[23]? = some (mo x y z (mq (nI J.length) md (nI D.length) kc gn sp (nI N.length) bc kn)) ∧ mI h ad J ∧ mD h D ∧ (∃ NF : Nat → Option Nat, h[32]? = some (.inl (9, 8, .inr (.inr (.inr (.inr NF))))) ∧ mWf h NF N) ∧ N.length ≤ 8 ∧ ∃ G : Nat → Int32, h[35]? = some (.inl (4, 8, .inl G))
abbrev sF : Nat → Prop := fun z => z = 33 ∨ z = 35
theorem sF_zz : ∀ k, zz k → ¬ sF k := fun k q => by unfold zz at q; unfold sF; omega
theorem sC.fr {h h' : List va_E} {ad : Nat → Nat} {J : List kL} {D : kD} {N : List kW} {x y z md kc gn sp bc kn : Int32} (C : sC h ad J D N x y z md kc gn sp bc kn) (G : fr_ sF h h') (g : ∃ G : Nat → Int32, h'[35]? = some (.inl (4, 8, .inl G))) : sC h' ad J D N x y z md kc gn sp bc kn := by
  obtain ⟨a, b, c, ⟨NF, e, f⟩, k, -⟩ := C
  have E := fr_ex G sF_zz
  exact ⟨fr_at G (by decide) a, b.ex E (G.2.2 26 (by decide)), c.ex E (G.2.2 27 (by decide)) (G.2.2 28 (by decide)), ⟨NF, fr_at G (by decide) e, f.ex E⟩, k, g⟩
def srP (h0 : List va_E) (ad : Nat → Nat) (J : List kL) (D : kD) (N : List kW) (A : List (Option kL)) (v : Option Value) (h' : List va_E) : Prop := fr_ sF h0 h' ∧ (∃ G : Nat → Int32, h'[35]? = some (.inl (4, 8, .inl G))) ∧ ((v = some (.int (nI 1)) ∧ ∃ (B : List (Option kL)) (F : Nat → Option Nat), yA h' ad 33 F B ∧ asg J N B ∧ pre A B ∧ vl D (B.filterMap id) ∧ ∀ B', asg J N B' → pre A B' → vl D (B'.filterMap id) → B' = B ∨ lxb B B') ∨ (v = some (.int (nI 0)) ∧ (∃ F : Nat → Option Nat, yA h' ad 33 F A) ∧ noV J D N A))
section ND
variable {X : Nat × (Nat → Int32)} {d : Nat} {h : List va_E} {Q : Option Value → List va_E → Prop} {ad : Nat → Nat} {J : List kL} {D : kD} {x y z md kc gn sp nc bc kn : Int32}
variable {A : List (Option kL)} {N : List kW}
theorem m_sr0 {F : Nat → Option Nat} (nN : nmS J N) (S : sC h ad J D N x y z md kc gn sp bc kn) (CA : yA h ad 33 F A) (ap : asgp J N A) (hl : A.length = N.length) : rt_ X (d + 11) 158 0 [some (.ref 23), some (.int (nI A.length)), none, none] [] h (srP h ad J D N A) := by
  obtain ⟨c23, CI, CD, ⟨NF, c32, hN⟩, n8, G, c35⟩ := id S
  have asA : asg J N A := ⟨hl, ap.2⟩
  have uq : ∀ B, asg J N B → pre A B → B = A := fun B b p => by
    apply List.ext_getElem?
    intro i
    by_cases q : i < A.length
    · exact p i q
    · rw [List.getElem?_eq_none (by have := b.1; omega), List.getElem?_eq_none (by omega)]
  refine rt_k (k := 2) (pc' := 2) (L' := [some (.ref 23), some (.int (nI A.length)), none, none]) (st' := [.ref 23, .int (nI A.length)]) (h' := h) (fun _ => rfl) ?_
  refine rt_gf rfl c23 rfl rfl ?_
  refine rt_ine rfl (by omega) (by omega) (fun z => absurd z ((by omega))) (fun _ => ?_)
  refine rt_k (k := 2) (pc' := 10) (L' := [some (.ref 23), some (.int (nI A.length)), none, none]) (st' := [.ref 23, .ref 23]) (h' := h) (fun _ => rfl) ?_
  refine rt_gf rfl c23 rfl rfl ?_
  refine rt_k (k := 1) (pc' := 14) (L' := [some (.ref 23), some (.int (nI A.length)), none, none]) (st' := [.int (nI A.length), .ref 33, .ref 23]) (h' := h) (fun _ => rfl) ?_
  refine rt_cv rfl (by decide) c23 rfl rfl rfl rfl (m_valid (d := d) (sa := 33) (by decide) c23 CD CA (asg_ds nN ap) G c35) ?_
  rintro _ h1 ⟨b1, b2, rfl⟩
  have FR : fr_ sF h h1 := fr_mo b1 (fun k q => Or.inr q)
  have CA1 : yA h1 ad 33 F A := CA.ex (fr_ex b1 (fun k q => by unfold zz at q; omega)) (b1.2.2 33 (by decide))
  by_cases V : vl D (A.filterMap id)
  · rw [← tF1 V]
    exact rt_r (v := some (.int (nI 1))) rfl rfl (⟨FR, b2, Or.inl ⟨rfl, A, F, CA1, asA, fun i _ => rfl, V, fun B b p _ => Or.inl (uq B b p)⟩⟩)
  · rw [← tF0 V]
    exact rt_r (v := some (.int (nI 0))) rfl rfl (⟨FR, b2, Or.inr ⟨rfl, ⟨F, CA1⟩, fun B b p q => by rw [uq B b p] at q; exact V q⟩⟩)
/-- the releases of one name, the newest first -/
theorem m_srl {h0 : List va_E} {wa : kW} {vr : Int32} (ju : jU J) (nN : nmS J N) (ap : asgp J N A) (hk : N[A.length]? = some wa) (hroot : (∃ (p : Nat) (e : kW × kR), vr = nI p ∧ D[p]? = some e ∧ e.1 = wa) ∨ vr = -1) (IH : ∀ (h : List va_E) (F : Nat → Option Nat) (B : List (Option kL)), B.length = A.length + 1 → sC h ad J D N x y z md kc gn sp bc kn → yA h ad 33 F B → asgp J N B → rt_ X (d + 11) 158 0 [some (.ref 23), some (.int (nI B.length)), none, none] [] h (srP h ad J D N B)) (b : Nat) (cur : Option kL) (hb : blc J wa cur < b) (h : List va_E) (FR : fr_ sF h0 h) (S : sC h ad J D N x y z md kc gn sp bc kn) (F : Nat → Option Nat) (CA : yA h ad 33 F A) (Yc : ∀ t, cur = some t → yL h (ad (lNo t)) t ∧ t ∈ J ∧ lNm t = wa) (H : ∀ B, asg J N B → pre A B → vl D (B.filterMap id) → ∃ s, B[A.length]? = some (some s) ∧ ∃ r, cur = some r ∧ (s = r ∨ vc (lVe s) (lVe r) < 0)) : rt_ X (d + 12) 158 74 [some (.ref 23), some (.int (nI A.length)), some (.int vr), some (vO ad cur)] [] h (srP h0 ad J D N A) := by
  obtain ⟨c23, CI, CD, ⟨NF, c32, hN⟩, n8, G, c35⟩ := id S
  have lk := gt_lt hk
  obtain ⟨ca, hA8, HA⟩ := id CA
  cases cur with
  | none =>
    have t0 := trivial
    refine rt_k (k := 3) (pc' := 143) (L' := [some (.ref 23), some (.int (nI A.length)), some (.int vr), some (.null)]) (st' := [.ref 23]) (h' := h) (fun _ => rfl) ?_
    refine rt_gf rfl c23 rfl rfl ?_
    refine rt_k (k := 2) (pc' := 148) (L' := [some (.ref 23), some (.int (nI A.length)), some (.int vr), some (.null)]) (st' := [.null, .int (nI A.length), .ref 33]) (h' := h) (fun _ => rfl) ?_
    refine rt_aaO rfl ca rfl (by omega) (by decide) ?_
    refine rt_nm (fun h_1 e_2 => ?_)
    have f_3 : fr_ (fun z => z = 33) h h_1 := by rw [e_2]; exact fr_set (e' := .inl (10, 8, .inr (.inr (.inr (.inr (va_up F A.length none)))))) ca (by rfl) (by first | decide | simp)
    have n_4 : h_1.length = h.length := by rw [e_2]; simp
    have c_5 : h_1[23]? = some (.inr (12, [.ref 24, .int x, .ref 25, .int y, .int z, .ref 26, .int (nI J.length), .int md, .ref 27, .ref 28, .int (nI D.length), .ref 29, .int kc, .int gn, .ref 30, .ref 31, .int sp, .ref 32, .int (nI N.length), .ref 33, .ref 34, .int bc, .int kn, .ref 35])) := by rw [e_2]; exact hs_ne c23 (by decide)
    have c_6 : h_1[33]? = some (.inl (10, 8, .inr (.inr (.inr (.inr (va_up F A.length none)))))) := by rw [e_2]; exact hs_self ca
    refine rt_k (k := 1) (pc' := 150) (L' := [some (.ref 23), some (.int (nI A.length)), some (.int vr), some (.null)]) (st' := [.int (nI 0)]) (h' := h_1) (fun _ => rfl) ?_
    have F0 := f_3
    have FF : fr_ sF _ _ := fr_mo F0 (fun k q => Or.inl q)
    have E := fr_ex FF sF_zz
    have k3 := c_6
    have CA1 := CA.sn (x := none) E k3 (by omega) rfl
    exact rt_r (v := some (.int (nI 0))) rfl rfl (⟨fr_tr FR FF, ⟨G, fr_at F0 (by decide) c35⟩, Or.inr ⟨rfl, ⟨_, CA1.pr⟩, fun B b p V => by obtain ⟨s, _, r, q, _⟩ := H B b p V; cases q⟩⟩)
  | some r =>
    obtain ⟨Yr, rJ, rN⟩ := Yc r rfl
    -- the next one
    have next : ∀ (h2 : List va_E) (F2 : Nat → Option Nat), fr_ sF h h2 → (∃ G : Nat → Int32, h2[35]? = some (.inl (4, 8, .inl G))) → yA h2 ad 33 F2 A → noV J D N (A ++ [some r]) → rt_ X (d + 12) 158 127 [some (.ref 23), some (.int (nI A.length)), some (.int vr), some (.ref (ad (lNo r)))] [] h2 (srP h0 ad J D N A) := fun h2 F2 f2 g2 CA2 no => by
      have S2 := S.fr f2 g2
      have E2 := fr_ex f2 sF_zz
      obtain ⟨d23, DI, DD, ⟨NF', d32, dN⟩, -, -⟩ := id S2
      obtain ⟨ua, u1, Su⟩ := dN A.length wa hk
      refine rt_k (k := 2) (pc' := 129) (L' := [some (.ref 23), some (.int (nI A.length)), some (.int vr), some (.ref (ad (lNo r)))]) (st' := [.ref 23, .ref 23]) (h' := h2) (fun _ => rfl) ?_
      refine rt_gf rfl d23 rfl rfl ?_
      refine rt_k (k := 1) (pc' := 133) (L' := [some (.ref 23), some (.int (nI A.length)), some (.int vr), some (.ref (ad (lNo r)))]) (st' := [.int (nI A.length), .ref 32, .ref 23]) (h' := h2) (fun _ => rfl) ?_
      refine rt_aalN rfl d32 rfl (by omega) (by decide) u1 ?_
      refine rt_k (k := 1) (pc' := 135) (L' := [some (.ref 23), some (.int (nI A.length)), some (.int vr), some (.ref (ad (lNo r)))]) (st' := [.ref (ad (lNo r)), .ref ua, .ref 23]) (h' := h2) (fun _ => rfl) ?_
      refine rt_cvH rfl (by decide) d23 rfl rfl rfl rfl (m_newest (d := d + 3) (th := some r) d23 DI Su (fun t q => by cases q; exact Yr.ex E2)) ?_
      rintro _ ⟨res, rfl, nw, Yres⟩
      refine rt_k (k := 2) (pc' := 74) (L' := [some (.ref 23), some (.int (nI A.length)), some (.int vr), some (vO ad res)]) (st' := []) (h' := h2) (fun _ => by cases res <;> rfl) ?_
      have hlt := blc_lt nw
      refine m_srl ju nN ap hk hroot IH (b - 1) res (by omega) h2 (fr_tr FR f2) S2 F2 CA2 (fun t q => ?_) (fun B b p V => ?_)
      · subst q; exact ⟨Yres t rfl, nw.1, nw.2.1⟩
      · obtain ⟨s, hs, r', q, q2⟩ := H B b p V
        cases q
        refine ⟨s, hs, ?_⟩
        have sJ := (b.2 _ s hs).1
        have sN : lNm s = wa := by
          have := (b.2 _ s hs).2
          rw [hk] at this
          exact (Option.some.inj this).symm
        rcases q2 with q2 | q2
        · subst q2; exact absurd V (no B b (pre_sn p hs))
        · cases res with
          | none => exact absurd q2 (nw s sJ sN)
          | some t =>
            refine ⟨t, rfl, ?_⟩
            have h1 := nw.2.2.2 s sJ sN q2
            rcases vc3 (lVe s) (lVe t) with y | y | y
            · exact Or.inr (by rw [y]; decide)
            · exact Or.inl (ju s t sJ nw.1 (sN.trans nw.2.1.symm) y)
            · exact absurd (by rw [y]; decide) h1
    obtain ⟨nm, ve, nd, nr, bk, br, ow, NF, RF, BF, QF, OF, ⟨zr, cr⟩, ⟨-, cnd⟩, ⟨-, cnr⟩, ⟨-, cbk⟩, ⟨-, cbr⟩, ⟨-, cow⟩, hln, Sn, Vn, DN, DB, WO⟩ := id (Yr)
    refine rt_k (k := 3) (pc' := 79) (L' := [some (.ref 23), some (.int (nI A.length)), some (.int vr), some (.ref (ad (lNo r)))]) (st' := [.ref 23]) (h' := h) (fun _ => rfl) ?_
    refine rt_gf rfl c23 rfl rfl ?_
    refine rt_k (k := 2) (pc' := 84) (L' := [some (.ref 23), some (.int (nI A.length)), some (.int vr), some (.ref (ad (lNo r)))]) (st' := [.ref (ad (lNo r)), .int (nI A.length), .ref 33]) (h' := h) (fun _ => rfl) ?_
    refine rt_aasN rfl ca cr ⟨rfl, rfl⟩ (by omega) (by decide) ?_
    refine rt_nm (fun h_7 e_8 => ?_)
    have f_9 : fr_ (fun z => z = 33) h h_7 := by rw [e_8]; exact fr_set (e' := .inl (10, 8, .inr (.inr (.inr (.inr (va_up F A.length (some (ad (lNo r))))))))) ca (by rfl) (by first | decide | simp)
    have n_10 : h_7.length = h.length := by rw [e_8]; simp
    have c_11 : h_7[23]? = some (.inr (12, [.ref 24, .int x, .ref 25, .int y, .int z, .ref 26, .int (nI J.length), .int md, .ref 27, .ref 28, .int (nI D.length), .ref 29, .int kc, .int gn, .ref 30, .ref 31, .int sp, .ref 32, .int (nI N.length), .ref 33, .ref 34, .int bc, .int kn, .ref 35])) := by rw [e_8]; exact hs_ne c23 (by decide)
    have c_12 : h_7[33]? = some (.inl (10, 8, .inr (.inr (.inr (.inr (va_up F A.length (some (ad (lNo r))))))))) := by rw [e_8]; exact hs_self ca
    have c_13 : h_7[ad (lNo r)]? = some (.inr (14, [.int (nI (lNo r)), .ref nm, .ref ve, .ref nd, .ref nr, .int (nI ((lNe r).length)), .ref bk, .ref br, .int (nI ((lBr r).length)), .ref ow, .int (nI ((lOw r).length))])) := by rw [e_8]; exact hs_ne cr (hc_ne ca cr (by intro q; cases q))
    have F0 := f_9
    have FF : fr_ sF _ _ := fr_mo F0 (fun k q => Or.inl q)
    have E1 := fr_ex FF sF_zz
    have k3 := c_12
    have CA1 := CA.sn (x := some r) E1 k3 (by omega) ⟨rfl, Yr.ex E1⟩
    generalize h_7 = h1 at *
    have g1 : ∃ G : Nat → Int32, h1[35]? = some (.inl (4, 8, .inl G)) := ⟨G, fr_at F0 (by decide) c35⟩
    have S1 := S.fr FF g1
    have l1 : (A ++ [some r]).length = A.length + 1 := by rw [List.length_append]; rfl
    have ap1 : asgp J N (A ++ [some r]) := ⟨by omega, fun i s hs => by
      by_cases q : i < A.length
      · rw [List.getElem?_append_left q] at hs; exact ap.2 i s hs
      · have := gt_lt hs
        have : i = A.length := by omega
        subst this
        rw [List.getElem?_append_right (Nat.le_refl _), Nat.sub_self] at hs
        cases hs
        exact ⟨rJ, by rw [rN]; exact hk⟩⟩
    obtain ⟨d23, DI, DD, ⟨NF', d32, dN⟩, -, -⟩ := id S1
    have hop : rt_ X (d + 12) 158 105 [some (.ref 23), some (.int (nI A.length)), some (.int vr), some (.ref (ad (lNo r)))] [] h1 (srP h0 ad J D N A) := by
      have t0 := trivial
      refine rt_k (k := 3) (pc' := 108) (L' := [some (.ref 23), some (.int (nI A.length)), some (.int vr), some (.ref (ad (lNo r)))]) (st' := [.int (nI 1), .int (nI A.length), .ref 23]) (h' := h1) (fun _ => rfl) ?_
      refine rt_add rfl ?_
      rw [← l1]
      refine rt_cvH rfl (by decide) d23 rfl rfl rfl rfl (m_hopeful (d := d + 1) d23 d32 dN (by omega) CA1) ?_
      rintro _ (rfl | ⟨rfl, hn⟩)
      · have t0 := trivial
        refine rt_k (k := 4) (pc' := 118) (L' := [some (.ref 23), some (.int (nI A.length)), some (.int vr), some (.ref (ad (lNo r)))]) (st' := [.int (nI 1), .int (nI A.length), .ref 23]) (h' := h1) (fun _ => rfl) ?_
        refine rt_add rfl ?_
        rw [← l1]
        refine rt_cv rfl (by decide) d23 rfl rfl rfl rfl (IH h1 _ (A ++ [some r]) l1 S1 CA1 ap1) ?_
        rintro _ h2 ⟨f2, g2, (⟨rfl, B, F3, b1, b2, b3, b4, b5⟩ | ⟨rfl, ⟨F3, b1⟩, b2⟩)⟩
        · have t0 := trivial
          have uni : ∀ B', asg J N B' → pre A B' → vl D (B'.filterMap id) → B' = B ∨ lxb B B' := fun B' c1 c2 c3 => by
            obtain ⟨s, hs, r', q, q2⟩ := H B' c1 c2 c3
            cases q
            by_cases e : s = r
            · subst e; exact b5 B' c1 (pre_sn c2 hs) c3
            · exact Or.inr (lxb_at (pre_of b3) c2 (pre_l b3) hs (vc_gt.mpr (q2.resolve_left e)))
          refine rt_k (k := 2) (pc' := 126) (L' := [some (.ref 23), some (.int (nI A.length)), some (.int vr), some (.ref (ad (lNo r)))]) (st' := [.int (nI 1)]) (h' := h2) (fun _ => rfl) ?_
          exact rt_r (v := some (.int (nI 1))) rfl rfl (⟨fr_tr FR (fr_tr FF f2), g2, Or.inl ⟨rfl, B, F3, b1, b2, pre_of b3, b4, uni⟩⟩)
        · have t0 := trivial
          refine rt_k (k := 1) (pc' := 127) (L' := [some (.ref 23), some (.int (nI A.length)), some (.int vr), some (.ref (ad (lNo r)))]) (st' := []) (h' := h2) (fun _ => rfl) ?_
          exact next h2 F3 (fr_tr FF f2) g2 b1.pr b2
      · have t0 := trivial
        refine rt_k (k := 1) (pc' := 127) (L' := [some (.ref 23), some (.int (nI A.length)), some (.int vr), some (.ref (ad (lNo r)))]) (st' := []) (h' := h1) (fun _ => rfl) ?_
        exact next h1 _ FF g1 CA1.pr (hp_no nN hn)
    rcases hroot with ⟨p, e, rfl, hp, e1⟩ | rfl
    · obtain ⟨DN', DR', d27, d28, hD6, HD⟩ := id DD
      obtain ⟨-, ra, q2, Yra⟩ := HD p e hp
      have lp := gt_lt hp
      have Yr1 := Yr.ex E1
      obtain ⟨nm5, ve5, nd5, nr5, bk5, br5, ow5, NF5, RF5, BF5, QF5, OF5, ⟨zr5, cr5⟩, ⟨-, cnd5⟩, ⟨-, cnr5⟩, ⟨-, cbk5⟩, ⟨-, cbr5⟩, ⟨-, cow5⟩, hln5, Sn5, Vn5, DN5, DB5, WO5⟩ := id (Yr1)
      refine rt_k (k := 1) (pc' := 86) (L' := [some (.ref 23), some (.int (nI A.length)), some (.int (nI p)), some (.ref (ad (lNo r)))]) (st' := [.int (nI p)]) (h' := h1) (fun _ => rfl) ?_
      refine rt_zlt rfl (by omega) ?_
      refine rt_k (k := 1) (pc' := 90) (L' := [some (.ref 23), some (.int (nI A.length)), some (.int (nI p)), some (.ref (ad (lNo r)))]) (st' := [.ref (ad (lNo r))]) (h' := h1) (fun _ => rfl) ?_
      refine rt_gf rfl cr5 rfl rfl ?_
      refine rt_k (k := 1) (pc' := 94) (L' := [some (.ref 23), some (.int (nI A.length)), some (.int (nI p)), some (.ref (ad (lNo r)))]) (st' := [.ref 23, .ref ve5]) (h' := h1) (fun _ => rfl) ?_
      refine rt_gf rfl d23 rfl rfl ?_
      refine rt_k (k := 1) (pc' := 98) (L' := [some (.ref 23), some (.int (nI A.length)), some (.int (nI p)), some (.ref (ad (lNo r)))]) (st' := [.int (nI p), .ref 28, .ref ve5]) (h' := h1) (fun _ => rfl) ?_
      refine rt_aalN rfl d28 rfl (by omega) (by decide) q2 ?_
      refine rt_cE rfl rfl (m_in (d := d + 2) Vn5 Yra) ?_
      refine rt_pe rfl (fun z1 => ?_) (fun z1 => ?_)
      ·
        exact next h1 _ FF g1 CA1.pr (in_no nN (List.mem_of_getElem? hp) (by rw [e1]; exact hk) z1)
      exact hop
    · have t0 := trivial
      refine rt_k (k := 2) (pc' := 105) (L' := [some (.ref 23), some (.int (nI A.length)), some (.int (-1)), some (.ref (ad (lNo r)))]) (st' := []) (h' := h1) (fun _ => rfl) ?_
      exact hop
termination_by b
theorem m_srS (ju : jU J) (nN : nmS J N) {F : Nat → Option Nat} (S : sC h ad J D N x y z md kc gn sp bc kn) (CA : yA h ad 33 F A) (ap : asgp J N A) (hl : A.length < N.length) (IH : ∀ (h : List va_E) (F : Nat → Option Nat) (B : List (Option kL)), B.length = A.length + 1 → sC h ad J D N x y z md kc gn sp bc kn → yA h ad 33 F B → asgp J N B → rt_ X (d + 11) 158 0 [some (.ref 23), some (.int (nI B.length)), none, none] [] h (srP h ad J D N B)) : rt_ X (d + 12) 158 0 [some (.ref 23), some (.int (nI A.length)), none, none] [] h (srP h ad J D N A) := by
  obtain ⟨c23, CI, CD, ⟨NF, c32, hN⟩, n8, G, c35⟩ := id S
  obtain ⟨wa, hk⟩ := gt_ex hl
  obtain ⟨ua, u1, Su⟩ := hN A.length wa hk
  obtain ⟨ca, hA8, HA⟩ := id CA
  -- the loop, once none can't be
  have loop : ∀ (vr : Int32) (h2 : List va_E) (F2 : Nat → Option Nat), ((∃ (p : Nat) (e : kW × kR), vr = nI p ∧ D[p]? = some e ∧ e.1 = wa) ∨ vr = -1) → fr_ sF h h2 → (∃ G : Nat → Int32, h2[35]? = some (.inl (4, 8, .inl G))) → yA h2 ad 33 F2 A → noV J D N (A ++ [none]) → rt_ X (d + 12) 158 62 [some (.ref 23), some (.int (nI A.length)), some (.int vr), none] [] h2 (srP h ad J D N A) := fun vr h2 F2 hroot f2 g2 CA2 no => by
    have S2 := S.fr f2 g2
    obtain ⟨d23, DI, DD, ⟨NF', d32, dN⟩, -, -⟩ := id S2
    obtain ⟨ub, v1, Sv⟩ := dN A.length wa hk
    refine rt_k (k := 2) (pc' := 64) (L' := [some (.ref 23), some (.int (nI A.length)), some (.int vr), none]) (st' := [.ref 23, .ref 23]) (h' := h2) (fun _ => rfl) ?_
    refine rt_gf rfl d23 rfl rfl ?_
    refine rt_k (k := 1) (pc' := 68) (L' := [some (.ref 23), some (.int (nI A.length)), some (.int vr), none]) (st' := [.int (nI A.length), .ref 32, .ref 23]) (h' := h2) (fun _ => rfl) ?_
    refine rt_aalN rfl d32 rfl (by omega) (by decide) v1 ?_
    refine rt_k (k := 1) (pc' := 70) (L' := [some (.ref 23), some (.int (nI A.length)), some (.int vr), none]) (st' := [.null, .ref ub, .ref 23]) (h' := h2) (fun _ => rfl) ?_
    refine rt_cvH rfl (by decide) d23 rfl rfl rfl rfl (m_newest (d := d + 3) (th := none) d23 DI Sv (fun t q => by cases q)) ?_
    rintro _ ⟨res, rfl, nw, Yres⟩
    refine rt_k (k := 1) (pc' := 74) (L' := [some (.ref 23), some (.int (nI A.length)), some (.int vr), some (vO ad res)]) (st' := []) (h' := h2) (fun _ => by cases res <;> rfl) ?_
    refine m_srl ju nN ap hk hroot IH _ res (Nat.lt_succ_self _) h2 f2 S2 F2 CA2 (fun t q => ?_) (fun B b p V => ?_)
    · subst q; exact ⟨Yres t rfl, nw.1, nw.2.1⟩
    · obtain ⟨x0, hx⟩ := gt_ex (show A.length < B.length by have := b.1; omega)
      cases x0 with
      | none => exact absurd V (no B b (pre_sn p hx))
      | some s =>
        refine ⟨s, hx, ?_⟩
        have sJ := (b.2 _ s hx).1
        have sN : lNm s = wa := by
          have := (b.2 _ s hx).2
          rw [hk] at this
          exact (Option.some.inj this).symm
        cases res with
        | none => exact absurd trivial (nw s sJ sN)
        | some t =>
          refine ⟨t, rfl, ?_⟩
          have h1 := nw.2.2.2 s sJ sN trivial
          rcases vc3 (lVe s) (lVe t) with y | y | y
          · exact Or.inr (by rw [y]; decide)
          · exact Or.inl (ju s t sJ nw.1 (sN.trans nw.2.1.symm) y)
          · exact absurd (by rw [y]; decide) h1
  refine rt_k (k := 2) (pc' := 2) (L' := [some (.ref 23), some (.int (nI A.length)), none, none]) (st' := [.ref 23, .int (nI A.length)]) (h' := h) (fun _ => rfl) ?_
  refine rt_gf rfl c23 rfl rfl ?_
  refine rt_ine rfl (by omega) (by omega) (fun _ => ?_) (fun z => absurd z ((by omega)))
  refine rt_k (k := 2) (pc' := 20) (L' := [some (.ref 23), some (.int (nI A.length)), none, none]) (st' := [.ref 23, .ref 23]) (h' := h) (fun _ => rfl) ?_
  refine rt_gf rfl c23 rfl rfl ?_
  refine rt_k (k := 1) (pc' := 24) (L' := [some (.ref 23), some (.int (nI A.length)), none, none]) (st' := [.int (nI A.length), .ref 32, .ref 23]) (h' := h) (fun _ => rfl) ?_
  refine rt_aalN rfl c32 rfl (by omega) (by decide) u1 ?_
  refine rt_cvH rfl (by decide) c23 rfl rfl rfl rfl (m_rootOf (d := d + 9) c23 rfl CD Su) ?_
  rintro _ (⟨p, e, hp, q1, q2, rfl⟩ | ⟨q1, rfl⟩)
  · have lp := gt_lt hp
    have hD6 := CD.choose_spec.choose_spec.2.2.1
    refine rt_k (k := 2) (pc' := 30) (L' := [some (.ref 23), some (.int (nI A.length)), some (.int (nI p)), none]) (st' := [.ref 23]) (h' := h) (fun _ => rfl) ?_
    refine rt_gf rfl c23 rfl rfl ?_
    refine rt_k (k := 2) (pc' := 35) (L' := [some (.ref 23), some (.int (nI A.length)), some (.int (nI p)), none]) (st' := [.null, .int (nI A.length), .ref 33]) (h' := h) (fun _ => rfl) ?_
    refine rt_aaO rfl ca rfl (by omega) (by decide) ?_
    refine rt_nm (fun h_14 e_15 => ?_)
    have f_16 : fr_ (fun z => z = 33) h h_14 := by rw [e_15]; exact fr_set (e' := .inl (10, 8, .inr (.inr (.inr (.inr (va_up F A.length none)))))) ca (by rfl) (by first | decide | simp)
    have n_17 : h_14.length = h.length := by rw [e_15]; simp
    have c_18 : h_14[23]? = some (.inr (12, [.ref 24, .int x, .ref 25, .int y, .int z, .ref 26, .int (nI J.length), .int md, .ref 27, .ref 28, .int (nI D.length), .ref 29, .int kc, .int gn, .ref 30, .ref 31, .int sp, .ref 32, .int (nI N.length), .ref 33, .ref 34, .int bc, .int kn, .ref 35])) := by rw [e_15]; exact hs_ne c23 (by decide)
    have c_19 : h_14[33]? = some (.inl (10, 8, .inr (.inr (.inr (.inr (va_up F A.length none)))))) := by rw [e_15]; exact hs_self ca
    refine rt_k (k := 1) (pc' := 37) (L' := [some (.ref 23), some (.int (nI A.length)), some (.int (nI p)), none]) (st' := [.int (nI p)]) (h' := h_14) (fun _ => rfl) ?_
    refine rt_zge rfl (by omega) ?_
    have F0 := f_16
    have FF : fr_ sF _ _ := fr_mo F0 (fun k q => Or.inl q)
    have E := fr_ex FF sF_zz
    have k3 := c_19
    have CA1 := CA.sn (x := none) E k3 (by omega) rfl
    exact loop _ _ _ (Or.inl ⟨p, e, rfl, hp, q1⟩) FF ⟨G, fr_at F0 (by decide) c35⟩ CA1.pr (ro_no nN (List.mem_of_getElem? hp) (by rw [q1]; exact hk))
  · have t0 := trivial
    refine rt_k (k := 2) (pc' := 30) (L' := [some (.ref 23), some (.int (nI A.length)), some (.int (-1)), none]) (st' := [.ref 23]) (h' := h) (fun _ => rfl) ?_
    refine rt_gf rfl c23 rfl rfl ?_
    refine rt_k (k := 2) (pc' := 35) (L' := [some (.ref 23), some (.int (nI A.length)), some (.int (-1)), none]) (st' := [.null, .int (nI A.length), .ref 33]) (h' := h) (fun _ => rfl) ?_
    refine rt_aaO rfl ca rfl (by omega) (by decide) ?_
    refine rt_nm (fun h_20 e_21 => ?_)
    have f_22 : fr_ (fun z => z = 33) h h_20 := by rw [e_21]; exact fr_set (e' := .inl (10, 8, .inr (.inr (.inr (.inr (va_up F A.length none)))))) ca (by rfl) (by first | decide | simp)
    have n_23 : h_20.length = h.length := by rw [e_21]; simp
    have c_24 : h_20[23]? = some (.inr (12, [.ref 24, .int x, .ref 25, .int y, .int z, .ref 26, .int (nI J.length), .int md, .ref 27, .ref 28, .int (nI D.length), .ref 29, .int kc, .int gn, .ref 30, .ref 31, .int sp, .ref 32, .int (nI N.length), .ref 33, .ref 34, .int bc, .int kn, .ref 35])) := by rw [e_21]; exact hs_ne c23 (by decide)
    have c_25 : h_20[33]? = some (.inl (10, 8, .inr (.inr (.inr (.inr (va_up F A.length none)))))) := by rw [e_21]; exact hs_self ca
    refine rt_k (k := 5) (pc' := 43) (L' := [some (.ref 23), some (.int (nI A.length)), some (.int (-1)), none]) (st' := [.int (nI 1), .int (nI A.length), .ref 23]) (h' := h_20) (fun _ => rfl) ?_
    refine rt_add rfl ?_
    have F0 := f_22
    have FF : fr_ sF _ _ := fr_mo F0 (fun k q => Or.inl q)
    have E := fr_ex FF sF_zz
    have k3 := c_25
    have CA1 := CA.sn (x := none) E k3 (by omega) rfl
    generalize h_20 = h1 at *
    have g1 : ∃ G : Nat → Int32, h1[35]? = some (.inl (4, 8, .inl G)) := ⟨G, fr_at F0 (by decide) c35⟩
    have S1 := S.fr FF g1
    have l1 : (A ++ [none]).length = A.length + 1 := by rw [List.length_append]; rfl
    have ap1 : asgp J N (A ++ [none]) := ⟨by omega, fun i s hs => by
      by_cases q : i < A.length
      · rw [List.getElem?_append_left q] at hs; exact ap.2 i s hs
      · have := gt_lt hs
        have : i = A.length := by omega
        subst this
        rw [List.getElem?_append_right (Nat.le_refl _), Nat.sub_self] at hs
        cases hs⟩
    obtain ⟨d23, DI, DD, ⟨NF', d32, dN⟩, -, -⟩ := id S1
    rw [← l1]
    refine rt_cvH rfl (by decide) d23 rfl rfl rfl rfl (m_hopeful (d := d + 1) d23 d32 dN (by omega) CA1) ?_
    rintro _ (rfl | ⟨rfl, hn⟩)
    · have t0 := trivial
      refine rt_k (k := 4) (pc' := 53) (L' := [some (.ref 23), some (.int (nI A.length)), some (.int (-1)), none]) (st' := [.int (nI 1), .int (nI A.length), .ref 23]) (h' := h1) (fun _ => rfl) ?_
      refine rt_add rfl ?_
      rw [← l1]
      refine rt_cv rfl (by decide) d23 rfl rfl rfl rfl (IH h1 _ (A ++ [none]) l1 S1 CA1 ap1) ?_
      rintro _ h2 ⟨f2, g2, (⟨rfl, B, F3, b1, b2, b3, b4, b5⟩ | ⟨rfl, ⟨F3, b1⟩, b2⟩)⟩
      · have t0 := trivial
        have uni : ∀ B', asg J N B' → pre A B' → vl D (B'.filterMap id) → B' = B ∨ lxb B B' := fun B' c1 c2 c3 => by
          obtain ⟨x0, hx⟩ := gt_ex (show A.length < B'.length by have := c1.1; omega)
          cases x0 with
          | none => exact b5 B' c1 (pre_sn c2 hx) c3
          | some s => exact Or.inr (lxb_at (pre_of b3) c2 (pre_l b3) hx trivial)
        refine rt_k (k := 2) (pc' := 61) (L' := [some (.ref 23), some (.int (nI A.length)), some (.int (-1)), none]) (st' := [.int (nI 1)]) (h' := h2) (fun _ => rfl) ?_
        exact rt_r (v := some (.int (nI 1))) rfl rfl (⟨fr_tr FF f2, g2, Or.inl ⟨rfl, B, F3, b1, b2, pre_of b3, b4, uni⟩⟩)
      · have t0 := trivial
        refine rt_k (k := 1) (pc' := 62) (L' := [some (.ref 23), some (.int (nI A.length)), some (.int (-1)), none]) (st' := []) (h' := h2) (fun _ => rfl) ?_
        exact loop _ h2 F3 (Or.inr rfl) (fr_tr FF f2) g2 b1.pr b2
    · have t0 := trivial
      refine rt_k (k := 1) (pc' := 62) (L' := [some (.ref 23), some (.int (nI A.length)), some (.int (-1)), none]) (st' := []) (h' := h1) (fun _ => rfl) ?_
      exact loop _ h1 _ (Or.inr rfl) FF g1 CA1.pr (hp_no nN hn)
theorem m_search (ju : jU J) (nN : nmS J N) (m : Nat) : ∀ (d : Nat) (h : List va_E) (F : Nat → Option Nat) (A : List (Option kL)), m + A.length = N.length → sC h ad J D N x y z md kc gn sp bc kn → yA h ad 33 F A → asgp J N A → rt_ X (d + m + 11) 158 0 [some (.ref 23), some (.int (nI A.length)), none, none] [] h (srP h ad J D N A) := by
  induction m with
  | zero => exact fun d h F A hl S CA ap => m_sr0 nN S CA ap (by omega)
  | succ m ih =>
    intro d h F A hl S CA ap
    exact m_srS (d := d + m) ju nN S CA ap (by omega) (fun h' F' B hB S' CB aB => ih d h' F' B (by omega) S' CB aB)
end ND

