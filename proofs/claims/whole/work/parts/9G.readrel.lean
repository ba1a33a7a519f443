/-! A RELEASE read. -/
theorem pCl_c (f : Nat) (k : kW) (ws : List kW) (n b : kD) (o : List kW) : pCl (f + 1) (k :: ws) n b o = (if k = tx 0 then (if n.length = 6 then none else match ws with
      | [] => none
      | w :: us => if isNm w = true then (match pRng us with
        | some q => pCl f q.2 (n ++ [(w, q.1)]) b o
        | none => none) else none)
    else if k = tx 1 then (if b.length = 3 then none else match ws with
      | [] => none
      | w :: us => if isNm w = true then (match pRng us with
        | some q => pCl f q.2 n (b ++ [(w, q.1)]) o
        | none => none) else none)
    else if k = tx 2 then (if o.length = 4 then none else match ws with
      | [] => none
      | w :: us => if isPt w = true then pCl f us n b (o ++ [w]) else none)
    else none) := by rw [pCl.eq_def]; rfl
section LQ
variable {X : Nat × (Nat → Int32)} {d : Nat} {h : List va_E} {Q : Option Value → List va_E → Prop} {T : List Nat} {f b p : Nat} {ws : List kW}
theorem lMk.n1 {h' : List va_E} {a v nd n1 g1 bk n2 g2 ps : Nat} {r : kL} {w : kW} {R : kR} {N' : Nat → Int64} {G' : Nat → Option Nat} (C : lMk h a v nd n1 g1 bk n2 g2 ps r) (hd : nd ≠ bk) (F : fr_ (fun z => z = nd ∨ z = n1 ∨ z = g1) h h') (Y : ey_ h h') (D : dD h' nd n1 g1 6 N' G' (lNe r ++ [(w, R)])) : lMk h' a v nd n1 g1 bk n2 g2 ps (lNo r, lNm r, lVe r, lNe r ++ [(w, R)], lBr r, lOw r) := by
  obtain ⟨⟨N1, G1, a1, a2, a3, a4, a5, a6⟩, ⟨N2, G2, b1, b2, b3, b4, b5, b6⟩, c, ⟨pf, e1, e2⟩, e3, V⟩ := C
  have ne : ∀ k x, h[k]? = some x → k ≠ nd → (∀ u, x ≠ .inl (1, 6, u)) → (∀ u, x ≠ .inl (6, 6, u)) → h'[k]? = some x := fun k x hx h1 h2 h3 => fr_at F (fun q => by
    rcases q with q | q | q
    · exact h1 q
    · rw [q, a2] at hx; cases hx; exact h2 _ rfl
    · rw [q, a3] at hx; cases hx; exact h3 _ rfl) hx
  refine ⟨⟨N', G', D⟩, ⟨N2, G2, ne _ _ b1 hd.symm (fun u q => by cases q) (fun u q => by cases q), ne _ _ b2 (fun q => by rw [q, a1] at b2; cases b2) (fun u q => by cases q) (fun u q => by cases q), ne _ _ b3 (fun q => by rw [q, a1] at b3; cases b3) (fun u q => by cases q) (fun u q => by cases q), b4, b5, b6.ey Y⟩, ne _ _ c (fun q => by rw [q, a1] at c; cases c) (fun u q => by cases q) (fun u q => by cases q), ⟨pf, ne _ _ e1 (fun q => by rw [q, a1] at e1; cases e1) (fun u q => by cases q) (fun u q => by cases q), e2⟩, e3, V.ey Y⟩
theorem lMk.n2 {h' : List va_E} {a v nd n1 g1 bk n2 g2 ps : Nat} {r : kL} {w : kW} {R : kR} {N' : Nat → Int64} {G' : Nat → Option Nat} (C : lMk h a v nd n1 g1 bk n2 g2 ps r) (hd : nd ≠ bk) (F : fr_ (fun z => z = bk ∨ z = n2 ∨ z = g2) h h') (Y : ey_ h h') (D : dD h' bk n2 g2 3 N' G' (lBr r ++ [(w, R)])) : lMk h' a v nd n1 g1 bk n2 g2 ps (lNo r, lNm r, lVe r, lNe r, lBr r ++ [(w, R)], lOw r) := by
  obtain ⟨⟨N1, G1, a1, a2, a3, a4, a5, a6⟩, ⟨N2, G2, b1, b2, b3, b4, b5, b6⟩, c, ⟨pf, e1, e2⟩, e3, V⟩ := C
  have ne : ∀ k x, h[k]? = some x → k ≠ bk → (∀ u, x ≠ .inl (1, 3, u)) → (∀ u, x ≠ .inl (6, 3, u)) → h'[k]? = some x := fun k x hx h1 h2 h3 => fr_at F (fun q => by
    rcases q with q | q | q
    · exact h1 q
    · rw [q, b2] at hx; cases hx; exact h2 _ rfl
    · rw [q, b3] at hx; cases hx; exact h3 _ rfl) hx
  refine ⟨⟨N1, G1, ne _ _ a1 hd (fun u q => by cases q) (fun u q => by cases q), ne _ _ a2 (fun q => by rw [q, b1] at a2; cases a2) (fun u q => by cases q) (fun u q => by cases q), ne _ _ a3 (fun q => by rw [q, b1] at a3; cases a3) (fun u q => by cases q) (fun u q => by cases q), a4, a5, a6.ey Y⟩, ⟨N', G', D⟩, ne _ _ c (fun q => by rw [q, b1] at c; cases c) (fun u q => by cases q) (fun u q => by cases q), ⟨pf, ne _ _ e1 (fun q => by rw [q, b1] at e1; cases e1) (fun u q => by cases q) (fun u q => by cases q), e2⟩, e3, V.ey Y⟩
def rlP (h0 : List va_E) (T : List Nat) (c s : Nat) (o : Option kL) (v : Option Value) (h' : List va_E) : Prop := gr r3 c s h0 h' ∧ ((∃ r a, o = some r ∧ v = some (.ref a) ∧ h0.length ≤ a ∧ zL h' a r ∧ rG h' T []) ∨ (o = none ∧ ((v = some .null ∧ rB h' T) ∨ ∃ a u us, v = some (.ref a) ∧ rG h' T (u :: us))))
theorem rG_fr {h' : List va_E} {A : Nat → Prop} (C : rC h T f b p) (F : fr_ A h h') (h1 : ¬ A 1) (h2 : ¬ A 2) (h3 : ¬ A 3) : rC h' T f b p := by
  obtain ⟨⟨u1, ⟨gg, u2, u3⟩, u4, u5⟩, u6, u7⟩ := C
  exact ⟨⟨fr_at F h1 u1, ⟨gg, fr_at F h2 u2, u3⟩, u4, u5⟩, fr_at F h3 u6, u7⟩
theorem nm_nz {w : kW} (hw : isNm w = true) : ¬ nmI w = 0 := by
  intro q
  unfold isNm at hw
  simp only [Bool.and_eq_true, decide_eq_true_eq, List.all_eq_true] at hw
  obtain ⟨⟨⟨h1, h2⟩, h3⟩, -⟩ := hw
  have hlt := pkw_lt (w := w) (fun c hc => by have := h3 c hc; omega) 7
  have h0 : pk w 8 = 0 := by
    have := congrArg Int64.toInt q
    unfold nmI lI at this
    rw [Int64.toInt_ofNat_of_lt (by omega), show (0 : Int64).toInt = 0 by decide] at this
    omega
  have h97 : 97 ≤ w.getD 0 0 := by
    cases w with
    | nil => simp at h1
    | cons c t => exact (h3 c List.mem_cons_self).1
  have : ∀ n, 97 ≤ pk w (n + 1) := by
    intro n
    induction n with
    | zero => rw [pk, pk]; omega
    | succ n ih => rw [pk]; omega
  have t7 : 97 ≤ pk w 8 := this 7
  omega
theorem rl_lp {h0 : List va_E} {a v nd n1 g1 bk n2 g2 ps no : Nat} {w : kW} {c0 s0 : Nat} (h39 : 39 ≤ h0.length) (hA : h0.length ≤ a ∧ h0.length ≤ nd ∧ h0.length ≤ n1 ∧ h0.length ≤ g1 ∧ h0.length ≤ bk ∧ h0.length ≤ n2 ∧ h0.length ≤ g2 ∧ h0.length ≤ ps) (hd : nd ≠ bk) (n i : Nat) (hn : i + n = 13) (r : kL) (h : List va_E) (f b p : Nat) (ws : List kW) (G : gr r3 (c0 + 83 * i) (s0 + 343 * i) h0 h) (M : lMk h a v nd n1 g1 bk n2 g2 ps r) (C : rC h T f b p) (W : rW T f b ws) (l8 l9 l10 l11 l12 : Option Value) : rt_ X (d + 7) 24 47 [some (.ref 3), some (.int (nI no)), some (.long (nmI w)), none, some (.ref v), some (.ref a), some (.int (nI 1)), some (.int (nI i)), l8, l9, l10, l11, l12] [] h (rlP h0 T (c0 + 83 * 13) (s0 + 343 * 13) ((pCl n ws (lNe r) (lBr r) (lOw r)).map (fun q => (lNo r, lNm r, lVe r, q.1, q.2.1, q.2.2)))) := by
  obtain ⟨P, c, h1, h2, h3⟩ := id C
  have zA : zz a ∧ zz nd ∧ zz n1 ∧ zz g1 ∧ zz bk ∧ zz n2 ∧ zz g2 ∧ zz ps := by unfold zz; omega
  have er : (lNo r, lNm r, lVe r, lNe r, lBr r, lOw r) = r := rfl
  have hl0 := G.1
  obtain ⟨⟨N1, G1, a1, -⟩, ⟨N2, G2, b1, -⟩, ca, -⟩ := id M
  -- the end, when all went well
  have fin : ∀ l8 l9 l10 l11 l12, (n = 0 ∨ ws = []) → rt_ X (d + 7) 24 200 [some (.ref 3), some (.int (nI no)), some (.long (nmI w)), none, some (.ref v), some (.ref a), some (.int (nI 1)), some (.int (nI i)), l8, l9, l10, l11, l12] [] h (rlP h0 T (c0 + 83 * 13) (s0 + 343 * 13) ((pCl n ws (lNe r) (lBr r) (lOw r)).map (fun q => (lNo r, lNm r, lVe r, q.1, q.2.1, q.2.2)))) := fun l8 l9 l10 l11 l12 hw => by
    cases ws with
    | nil =>
      have e : pCl n [] (lNe r) (lBr r) (lOw r) = some (lNe r, lBr r, lOw r) := by cases n <;> rfl
      rw [e]
      refine rt_k (k := 4) (pc' := 211) (L' := [some (.ref 3), some (.int (nI no)), some (.long (nmI w)), none, some (.ref v), some (.ref a), some (.int (nI 1)), some (.int (nI i)), l8, l9, l10, l11, l12]) (st' := [.ref a]) (h' := h) (fun _ => rfl) ?_
      exact rt_r (v := some (.ref a)) rfl rfl (⟨gr_mo G (fun _ q => q) (by omega) (by omega), Or.inl ⟨r, a, rfl, rfl, hA.1, M.z zA, f, b, p, C, W⟩⟩)
    | cons u us =>
      have e0 : n = 0 := hw.resolve_right (fun q => by cases q)
      subst e0
      refine rt_k (k := 4) (pc' := 211) (L' := [some (.ref 3), some (.int (nI no)), some (.long (nmI w)), none, some (.ref v), some (.ref a), some (.int (nI 1)), some (.int (nI i)), l8, l9, l10, l11, l12]) (st' := [.ref a]) (h' := h) (fun _ => rfl) ?_
      exact rt_r (v := some (.ref a)) rfl rfl (⟨gr_mo G (fun _ q => q) (by omega) (by omega), Or.inr ⟨rfl, Or.inr ⟨a, u, us, rfl, f, b, p, C, W⟩⟩⟩)
  refine rt_k (k := 2) (pc' := 51) (L' := [some (.ref 3), some (.int (nI no)), some (.long (nmI w)), none, some (.ref v), some (.ref a), some (.int (nI 1)), some (.int (nI i)), l8, l9, l10, l11, l12]) (st' := [.int (nI 13), .int (nI i)]) (h' := h) (fun _ => rfl) ?_
  refine rt_ige rfl (by omega) (by decide) (fun z0 => ?_) (fun z0 => ?_)
  ·
    exact fin l8 l9 l10 l11 l12 (Or.inl (by omega))
  refine rt_k (k := 3) (pc' := 60) (L' := [some (.ref 3), some (.int (nI no)), some (.long (nmI w)), none, some (.ref v), some (.ref a), some (.int (nI 1)), some (.int (nI i)), l8, l9, l10, l11, l12]) (st' := [.ref 3]) (h' := h) (fun _ => rfl) ?_
  refine rt_cvE rfl (by decide) c rfl rfl rfl rfl (rd_end C W) ?_
  refine rt_pn rfl (fun z1 => ?_) (fun z1 => ?_)
  ·
    exact fin l8 l9 l10 l11 l12 (Or.inr z1)
  obtain ⟨n, rfl⟩ : ∃ n', n = n' + 1 := ⟨n - 1, by omega⟩
  cases ws with
  | nil => exact absurd rfl z1
  | cons u us =>
  obtain ⟨w1, w2, w3⟩ := rW_w W
  -- a clause that is no good
  have bad : ∀ (hh : List va_E) (l8 l9 l10 l11 l12 : Option Value), gr r3 (c0 + 83 * (i + 1)) (s0 + 343 * (i + 1)) h0 hh → rB hh T → pCl (n + 1) (u :: us) (lNe r) (lBr r) (lOw r) = none → rt_ X (d + 7) 24 194 [some (.ref 3), some (.int (nI no)), some (.long (nmI w)), none, some (.ref v), some (.ref a), some (.int (nI 0)), some (.int (nI i)), l8, l9, l10, l11, l12] [] hh (rlP h0 T (c0 + 83 * 13) (s0 + 343 * 13) ((pCl (n + 1) (u :: us) (lNe r) (lBr r) (lOw r)).map (fun q => (lNo r, lNm r, lVe r, q.1, q.2.1, q.2.2)))) := fun hh l8 l9 l10 l11 l12 Gh Bh eN => by
    rw [eN]
    refine rt_inc (c := 1) rfl rfl ?_
    refine rt_k (k := 3) (pc' := 51) (L' := [some (.ref 3), some (.int (nI no)), some (.long (nmI w)), none, some (.ref v), some (.ref a), some (.int (nI 0)), some (.int (nI (i + 1))), l8, l9, l10, l11, l12]) (st' := [.int (nI 13), .int (nI (i + 1))]) (h' := hh) (fun _ => rfl) ?_
    refine rt_ige rfl (by omega) (by decide) (fun y0 => ?_) (fun y0 => ?_)
    ·
      refine rt_k (k := 3) (pc' := 211) (L' := [some (.ref 3), some (.int (nI no)), some (.long (nmI w)), none, some (.ref v), some (.ref a), some (.int (nI 0)), some (.int (nI (i + 1))), l8, l9, l10, l11, l12]) (st' := [.null]) (h' := hh) (fun _ => rfl) ?_
      exact rt_r (v := some (.null)) rfl rfl (⟨gr_mo Gh (fun _ q => q) (by omega) (by omega), Or.inr ⟨rfl, Or.inl ⟨rfl, Bh⟩⟩⟩)
    refine rt_k (k := 5) (pc' := 211) (L' := [some (.ref 3), some (.int (nI no)), some (.long (nmI w)), none, some (.ref v), some (.ref a), some (.int (nI 0)), some (.int (nI (i + 1))), l8, l9, l10, l11, l12]) (st' := [.null]) (h' := hh) (fun _ => rfl) ?_
    exact rt_r (v := some (.null)) rfl rfl (⟨gr_mo Gh (fun _ q => q) (by omega) (by omega), Or.inr ⟨rfl, Or.inl ⟨rfl, Bh⟩⟩⟩)
  -- n: a name and a range
  have demn : u = tx 0 → ∀ (hh : List va_E) (f1 b1 : Nat) (l9 : Int32) (l10 l11 l12 : Option Value), gr r3 (c0 + 83 * i) (s0 + 343 * i) h0 hh → lMk hh a v nd n1 g1 bk n2 g2 ps r → rC hh T f1 b1 p → rW T f1 b1 us → rt_ X (d + 7) 24 115 [some (.ref 3), some (.int (nI no)), some (.long (nmI w)), none, some (.ref v), some (.ref a), some (.int (nI 1)), some (.int (nI i)), some (.ref nd), some (.int l9), l10, l11, l12] [] hh (rlP h0 T (c0 + 83 * 13) (s0 + 343 * 13) ((pCl (n + 1) (u :: us) (lNe r) (lBr r) (lOw r)).map (fun q => (lNo r, lNm r, lVe r, q.1, q.2.1, q.2.2)))) := fun eu hh f1 b1 l9 l10 l11 l12 Gh Mh Ch Wh => by
    have eP : pCl (n + 1) (u :: us) (lNe r) (lBr r) (lOw r) = if (lNe r).length = 6 then none else match us with | [] => none | w' :: vs => if isNm w' = true then (match pRng vs with | some q => pCl n q.2 (lNe r ++ [(w', q.1)]) (lBr r) (lOw r) | none => none) else none := by
      rw [pCl_c, if_pos eu]
    have ch := Ch.2.1
    have hh39 : 39 ≤ hh.length := by have := Gh.1; omega
    refine rt_k (k := 3) (pc' := 121) (L' := [some (.ref 3), some (.int (nI no)), some (.long (nmI w)), none, some (.ref v), some (.ref a), some (.int (nI 1)), some (.int (nI i)), some (.ref nd), some (.int l9), l10, l11, l12]) (st' := [.ref 3]) (h' := hh) (fun _ => rfl) ?_
    refine rt_cv rfl (by decide) ch rfl rfl rfl rfl (rd_name Ch Wh) ?_
    rintro _ h2 ⟨F2, (⟨w', vs, k1, k2, rfl, f2, b2, p2, C2, W2⟩ | ⟨k1, rfl, B2⟩)⟩
    ·
      have G2 := gr_mo (gr_tr Gh (gr_fr F2)) (fun _ q => q) (show c0 + 83 * i + 0 ≤ c0 + 83 * i by omega) (show s0 + 343 * i + 0 ≤ s0 + 343 * i by omega)
      have M2 := Mh.ex (fr_ex F2 r3_zz) zA
      have c2 := C2.2.1
      have hl2 : hh.length = h2.length := F2.1.symm
      subst k1
      dsimp only at eP
      rw [if_pos k2] at eP
      refine rt_k (k := 4) (pc' := 130) (L' := [some (.ref 3), some (.int (nI no)), some (.long (nmI w)), none, some (.ref v), some (.ref a), some (.int (nI 1)), some (.int (nI i)), some (.ref nd), some (.int l9), some (.long (nmI w')), none, l12]) (st' := [.int (lg_cmp (nmI w') 0)]) (h' := h2) (fun _ => rfl) ?_
      refine rt_ln rfl (fun _ => ?_) (fun z => absurd z ((fun y => nm_nz k2 y)))
      refine rt_k (k := 1) (pc' := 138) (L' := [some (.ref 3), some (.int (nI no)), some (.long (nmI w)), none, some (.ref v), some (.ref a), some (.int (nI 1)), some (.int (nI i)), some (.ref nd), some (.int l9), some (.long (nmI w')), none, l12]) (st' := [.ref 3]) (h' := h2) (fun _ => rfl) ?_
      refine rt_cv rfl (by decide) c2 rfl rfl rfl rfl (rd_range (by omega) C2 W2) ?_
      rintro _ h3 ⟨g3, (⟨R, vs', ra, j1, rfl, j3, j4, f3, b3, p3, C3, W3⟩ | ⟨j1, rfl, B3⟩)⟩
      ·
        have G3 : gr r3 (c0 + 83 * (i + 1)) (s0 + 343 * (i + 1)) h0 h3 := gr_mo (gr_tr G2 g3) (fun _ q => q) (by omega) (by omega)
        have M3 := M2.ex (gr_ex g3 r3_zz) zA
        have M3' := M3
        obtain ⟨⟨Nx, Gx, Dx⟩, -, cax, -⟩ := M3'
        have dx := Dx.1
        rw [j1] at eP
        dsimp only at eP
        refine rt_k (k := 6) (pc' := 154) (L' := [some (.ref 3), some (.int (nI no)), some (.long (nmI w)), none, some (.ref v), some (.ref a), some (.int (nI 1)), some (.int (nI i)), some (.ref nd), some (.int l9), some (.long (nmI w')), none, some (.ref ra)]) (st' := [.ref ra, .long (nmI w'), .ref nd]) (h' := h3) (fun _ => rfl) ?_
        refine rt_cv rfl (by decide) dx rfl rfl rfl rfl (dmd_add (w := w') Dx j4) ?_
        rintro _ h4 (⟨i1, rfl, e9⟩ | ⟨i1, rfl, F4, Y4, N', G', D4⟩)
        ·
          rw [if_pos i1] at eP
          rw [e9]
          refine rt_k (k := 4) (pc' := 194) (L' := [some (.ref 3), some (.int (nI no)), some (.long (nmI w)), none, some (.ref v), some (.ref a), some (.int (nI 0)), some (.int (nI i)), some (.ref nd), some (.int l9), some (.long (nmI w')), none, some (.ref ra)]) (st' := []) (h' := h3) (fun _ => rfl) ?_
          exact bad h3 _ _ _ _ _ G3 ⟨f3, b3, p3, C3⟩ eP
        rw [if_neg (by omega)] at eP
        have M4 := M3.n1 hd F4 Y4 D4
        have G4 : gr r3 (c0 + 83 * (i + 1)) (s0 + 343 * (i + 1)) h0 h4 := ⟨by rw [F4.1]; exact G3.1, by rw [F4.1]; exact G3.2.1, by rw [F4.2.1]; exact G3.2.2.1, fun k hk hr => by rw [F4.2.2 k (by omega)]; exact G3.2.2.2 k hk hr⟩
        have C4 := rG_fr C3 F4 (by omega) (by omega) (by omega)
        rw [eP]
        refine rt_k (k := 5) (pc' := 194) (L' := [some (.ref 3), some (.int (nI no)), some (.long (nmI w)), none, some (.ref v), some (.ref a), some (.int (nI 1)), some (.int (nI i)), some (.ref nd), some (.int l9), some (.long (nmI w')), none, some (.ref ra)]) (st' := []) (h' := h4) (fun _ => rfl) ?_
        refine rt_inc (c := 1) rfl rfl ?_
        refine rt_k (k := 1) (pc' := 47) (L' := [some (.ref 3), some (.int (nI no)), some (.long (nmI w)), none, some (.ref v), some (.ref a), some (.int (nI 1)), some (.int (nI (i + 1))), some (.ref nd), some (.int l9), some (.long (nmI w')), none, some (.ref ra)]) (st' := []) (h' := h4) (fun _ => rfl) ?_
        exact rl_lp h39 hA hd n (i + 1) (by omega) (lNo r, lNm r, lVe r, lNe r ++ [(w', R)], lBr r, lOw r) h4 f3 b3 p3 vs' G4 M4 C4 W3 _ _ _ _ _
      refine rt_k (k := 6) (pc' := 194) (L' := [some (.ref 3), some (.int (nI no)), some (.long (nmI w)), none, some (.ref v), some (.ref a), some (.int (nI 0)), some (.int (nI i)), some (.ref nd), some (.int l9), some (.long (nmI w')), none, some .null]) (st' := []) (h' := h3) (fun _ => rfl) ?_
      have G3 : gr r3 (c0 + 83 * (i + 1)) (s0 + 343 * (i + 1)) h0 h3 := gr_mo (gr_tr G2 g3) (fun _ q => q) (by omega) (by omega)
      rw [j1] at eP
      exact bad h3 _ _ _ _ _ G3 B3 (by rw [eP]; split <;> rfl)
    have G2 : gr r3 (c0 + 83 * (i + 1)) (s0 + 343 * (i + 1)) h0 h2 := gr_mo (gr_tr Gh (gr_fr F2)) (fun _ q => q) (by omega) (by omega)
    refine rt_k (k := 3) (pc' := 129) (L' := [some (.ref 3), some (.int (nI no)), some (.long (nmI w)), none, some (.ref v), some (.ref a), some (.int (nI 1)), some (.int (nI i)), some (.ref nd), some (.int l9), some (.long 0), none, l12]) (st' := [.long 0, .long 0]) (h' := h2) (fun _ => rfl) ?_
    refine rt_k (k := 1) (pc' := 130) (L' := [some (.ref 3), some (.int (nI no)), some (.long (nmI w)), none, some (.ref v), some (.ref a), some (.int (nI 1)), some (.int (nI i)), some (.ref nd), some (.int l9), some (.long 0), none, l12]) (st' := [.int (lg_cmp 0 0)]) (h' := h2) (fun _ => rfl) ?_
    refine rt_ln rfl (fun z => absurd z ((fun y => y rfl))) (fun _ => ?_)
    refine rt_k (k := 8) (pc' := 194) (L' := [some (.ref 3), some (.int (nI no)), some (.long (nmI w)), none, some (.ref v), some (.ref a), some (.int (nI 0)), some (.int (nI i)), some (.ref nd), some (.int l9), some (.long 0), none, some (.null)]) (st' := []) (h' := h2) (fun _ => rfl) ?_
    refine bad h2 _ _ _ _ _ G2 B2 ?_
    rw [eP]
    split
    · rfl
    · cases us with
      | nil => rfl
      | cons w' vs =>
        dsimp only
        rw [if_neg (fun y => k1 ⟨w', vs, rfl, y⟩)]
  -- b: a name and a range
  have demb : u = tx 1 → ∀ (hh : List va_E) (f1 b1 : Nat) (l9 : Int32) (l10 l11 l12 : Option Value), gr r3 (c0 + 83 * i) (s0 + 343 * i) h0 hh → lMk hh a v nd n1 g1 bk n2 g2 ps r → rC hh T f1 b1 p → rW T f1 b1 us → rt_ X (d + 7) 24 115 [some (.ref 3), some (.int (nI no)), some (.long (nmI w)), none, some (.ref v), some (.ref a), some (.int (nI 1)), some (.int (nI i)), some (.ref bk), some (.int l9), l10, l11, l12] [] hh (rlP h0 T (c0 + 83 * 13) (s0 + 343 * 13) ((pCl (n + 1) (u :: us) (lNe r) (lBr r) (lOw r)).map (fun q => (lNo r, lNm r, lVe r, q.1, q.2.1, q.2.2)))) := fun eu hh f1 b1 l9 l10 l11 l12 Gh Mh Ch Wh => by
    have eP : pCl (n + 1) (u :: us) (lNe r) (lBr r) (lOw r) = if (lBr r).length = 3 then none else match us with | [] => none | w' :: vs => if isNm w' = true then (match pRng vs with | some q => pCl n q.2 (lNe r) (lBr r ++ [(w', q.1)]) (lOw r) | none => none) else none := by
      rw [pCl_c, if_neg (by rw [eu]; decide), if_pos eu]
    have ch := Ch.2.1
    have hh39 : 39 ≤ hh.length := by have := Gh.1; omega
    refine rt_k (k := 3) (pc' := 121) (L' := [some (.ref 3), some (.int (nI no)), some (.long (nmI w)), none, some (.ref v), some (.ref a), some (.int (nI 1)), some (.int (nI i)), some (.ref bk), some (.int l9), l10, l11, l12]) (st' := [.ref 3]) (h' := hh) (fun _ => rfl) ?_
    refine rt_cv rfl (by decide) ch rfl rfl rfl rfl (rd_name Ch Wh) ?_
    rintro _ h2 ⟨F2, (⟨w', vs, k1, k2, rfl, f2, b2, p2, C2, W2⟩ | ⟨k1, rfl, B2⟩)⟩
    ·
      have G2 := gr_mo (gr_tr Gh (gr_fr F2)) (fun _ q => q) (show c0 + 83 * i + 0 ≤ c0 + 83 * i by omega) (show s0 + 343 * i + 0 ≤ s0 + 343 * i by omega)
      have M2 := Mh.ex (fr_ex F2 r3_zz) zA
      have c2 := C2.2.1
      have hl2 : hh.length = h2.length := F2.1.symm
      subst k1
      dsimp only at eP
      rw [if_pos k2] at eP
      refine rt_k (k := 4) (pc' := 130) (L' := [some (.ref 3), some (.int (nI no)), some (.long (nmI w)), none, some (.ref v), some (.ref a), some (.int (nI 1)), some (.int (nI i)), some (.ref bk), some (.int l9), some (.long (nmI w')), none, l12]) (st' := [.int (lg_cmp (nmI w') 0)]) (h' := h2) (fun _ => rfl) ?_
      refine rt_ln rfl (fun _ => ?_) (fun z => absurd z ((fun y => nm_nz k2 y)))
      refine rt_k (k := 1) (pc' := 138) (L' := [some (.ref 3), some (.int (nI no)), some (.long (nmI w)), none, some (.ref v), some (.ref a), some (.int (nI 1)), some (.int (nI i)), some (.ref bk), some (.int l9), some (.long (nmI w')), none, l12]) (st' := [.ref 3]) (h' := h2) (fun _ => rfl) ?_
      refine rt_cv rfl (by decide) c2 rfl rfl rfl rfl (rd_range (by omega) C2 W2) ?_
      rintro _ h3 ⟨g3, (⟨R, vs', ra, j1, rfl, j3, j4, f3, b3, p3, C3, W3⟩ | ⟨j1, rfl, B3⟩)⟩
      ·
        have G3 : gr r3 (c0 + 83 * (i + 1)) (s0 + 343 * (i + 1)) h0 h3 := gr_mo (gr_tr G2 g3) (fun _ q => q) (by omega) (by omega)
        have M3 := M2.ex (gr_ex g3 r3_zz) zA
        have M3' := M3
        obtain ⟨-, ⟨Nx, Gx, Dx⟩, cax, -⟩ := M3'
        have dx := Dx.1
        rw [j1] at eP
        dsimp only at eP
        refine rt_k (k := 6) (pc' := 154) (L' := [some (.ref 3), some (.int (nI no)), some (.long (nmI w)), none, some (.ref v), some (.ref a), some (.int (nI 1)), some (.int (nI i)), some (.ref bk), some (.int l9), some (.long (nmI w')), none, some (.ref ra)]) (st' := [.ref ra, .long (nmI w'), .ref bk]) (h' := h3) (fun _ => rfl) ?_
        refine rt_cv rfl (by decide) dx rfl rfl rfl rfl (dmd_add (w := w') Dx j4) ?_
        rintro _ h4 (⟨i1, rfl, e9⟩ | ⟨i1, rfl, F4, Y4, N', G', D4⟩)
        ·
          rw [if_pos i1] at eP
          rw [e9]
          refine rt_k (k := 4) (pc' := 194) (L' := [some (.ref 3), some (.int (nI no)), some (.long (nmI w)), none, some (.ref v), some (.ref a), some (.int (nI 0)), some (.int (nI i)), some (.ref bk), some (.int l9), some (.long (nmI w')), none, some (.ref ra)]) (st' := []) (h' := h3) (fun _ => rfl) ?_
          exact bad h3 _ _ _ _ _ G3 ⟨f3, b3, p3, C3⟩ eP
        rw [if_neg (by omega)] at eP
        have M4 := M3.n2 hd F4 Y4 D4
        have G4 : gr r3 (c0 + 83 * (i + 1)) (s0 + 343 * (i + 1)) h0 h4 := ⟨by rw [F4.1]; exact G3.1, by rw [F4.1]; exact G3.2.1, by rw [F4.2.1]; exact G3.2.2.1, fun k hk hr => by rw [F4.2.2 k (by omega)]; exact G3.2.2.2 k hk hr⟩
        have C4 := rG_fr C3 F4 (by omega) (by omega) (by omega)
        rw [eP]
        refine rt_k (k := 5) (pc' := 194) (L' := [some (.ref 3), some (.int (nI no)), some (.long (nmI w)), none, some (.ref v), some (.ref a), some (.int (nI 1)), some (.int (nI i)), some (.ref bk), some (.int l9), some (.long (nmI w')), none, some (.ref ra)]) (st' := []) (h' := h4) (fun _ => rfl) ?_
        refine rt_inc (c := 1) rfl rfl ?_
        refine rt_k (k := 1) (pc' := 47) (L' := [some (.ref 3), some (.int (nI no)), some (.long (nmI w)), none, some (.ref v), some (.ref a), some (.int (nI 1)), some (.int (nI (i + 1))), some (.ref bk), some (.int l9), some (.long (nmI w')), none, some (.ref ra)]) (st' := []) (h' := h4) (fun _ => rfl) ?_
        exact rl_lp h39 hA hd n (i + 1) (by omega) (lNo r, lNm r, lVe r, lNe r, lBr r ++ [(w', R)], lOw r) h4 f3 b3 p3 vs' G4 M4 C4 W3 _ _ _ _ _
      refine rt_k (k := 6) (pc' := 194) (L' := [some (.ref 3), some (.int (nI no)), some (.long (nmI w)), none, some (.ref v), some (.ref a), some (.int (nI 0)), some (.int (nI i)), some (.ref bk), some (.int l9), some (.long (nmI w')), none, some .null]) (st' := []) (h' := h3) (fun _ => rfl) ?_
      have G3 : gr r3 (c0 + 83 * (i + 1)) (s0 + 343 * (i + 1)) h0 h3 := gr_mo (gr_tr G2 g3) (fun _ q => q) (by omega) (by omega)
      rw [j1] at eP
      exact bad h3 _ _ _ _ _ G3 B3 (by rw [eP]; split <;> rfl)
    have G2 : gr r3 (c0 + 83 * (i + 1)) (s0 + 343 * (i + 1)) h0 h2 := gr_mo (gr_tr Gh (gr_fr F2)) (fun _ q => q) (by omega) (by omega)
    refine rt_k (k := 3) (pc' := 129) (L' := [some (.ref 3), some (.int (nI no)), some (.long (nmI w)), none, some (.ref v), some (.ref a), some (.int (nI 1)), some (.int (nI i)), some (.ref bk), some (.int l9), some (.long 0), none, l12]) (st' := [.long 0, .long 0]) (h' := h2) (fun _ => rfl) ?_
    refine rt_k (k := 1) (pc' := 130) (L' := [some (.ref 3), some (.int (nI no)), some (.long (nmI w)), none, some (.ref v), some (.ref a), some (.int (nI 1)), some (.int (nI i)), some (.ref bk), some (.int l9), some (.long 0), none, l12]) (st' := [.int (lg_cmp 0 0)]) (h' := h2) (fun _ => rfl) ?_
    refine rt_ln rfl (fun z => absurd z ((fun y => y rfl))) (fun _ => ?_)
    refine rt_k (k := 8) (pc' := 194) (L' := [some (.ref 3), some (.int (nI no)), some (.long (nmI w)), none, some (.ref v), some (.ref a), some (.int (nI 0)), some (.int (nI i)), some (.ref bk), some (.int l9), some (.long 0), none, some (.null)]) (st' := []) (h' := h2) (fun _ => rfl) ?_
    refine bad h2 _ _ _ _ _ G2 B2 ?_
    rw [eP]
    split
    · rfl
    · cases us with
      | nil => rfl
      | cons w' vs =>
        dsimp only
        rw [if_neg (fun y => k1 ⟨w', vs, rfl, y⟩)]
  have nxtn : (∀ (hh : List va_E) (f1 b1 : Nat), gr r3 (c0 + 83 * i) (s0 + 343 * i) h0 hh → lMk hh a v nd n1 g1 bk n2 g2 ps r → rC hh T f1 b1 p → rW T f1 b1 us → rt_ X (d + 7) 24 115 [some (.ref 3), some (.int (nI no)), some (.long (nmI w)), none, some (.ref v), some (.ref a), some (.int (nI 1)), some (.int (nI i)), some (.ref nd), some (.int (tB (sl T f b = tx 2))), l10, l11, l12] [] hh (rlP h0 T (c0 + 83 * 13) (s0 + 343 * 13) ((pCl (n + 1) (u :: us) (lNe r) (lBr r) (lOw r)).map (fun q => (lNo r, lNm r, lVe r, q.1, q.2.1, q.2.2))))) → rt_ X (d + 7) 24 101 [some (.ref 3), some (.int (nI no)), some (.long (nmI w)), none, some (.ref v), some (.ref a), some (.int (nI 1)), some (.int (nI i)), l8, l9, l10, l11, l12] [.ref nd] h (rlP h0 T (c0 + 83 * 13) (s0 + 343 * 13) ((pCl (n + 1) (u :: us) (lNe r) (lBr r) (lOw r)).map (fun q => (lNo r, lNm r, lVe r, q.1, q.2.1, q.2.2)))) := fun k => by
    refine rt_k (k := 3) (pc' := 106) (L' := [some (.ref 3), some (.int (nI no)), some (.long (nmI w)), none, some (.ref v), some (.ref a), some (.int (nI 1)), some (.int (nI i)), some (.ref nd), l9, l10, l11, l12]) (st' := [.retAddr 2, .ref 3]) (h' := h) (fun _ => rfl) ?_
    refine rt_cvE rfl (by decide) c rfl rfl rfl rfl (rd_wi2 C) ?_
    refine rt_k (k := 2) (pc' := 112) (L' := [some (.ref 3), some (.int (nI no)), some (.long (nmI w)), none, some (.ref v), some (.ref a), some (.int (nI 1)), some (.int (nI i)), some (.ref nd), some (.int (tB (sl T f b = tx 2))), l10, l11, l12]) (st' := [.ref 3]) (h' := h) (fun _ => rfl) ?_
    refine rt_cv rfl (by decide) c rfl rfl rfl rfl (rd_nx C) ?_
    rintro _ h2 ⟨rfl, F2, f2, b2, C2, W2⟩
    rw [← w2] at W2
    exact k h2 f2 b2 (gr_mo (gr_tr G (gr_fr F2)) (fun _ q => q) (by omega) (by omega)) (M.ex (fr_ex F2 r3_zz) zA) C2 W2
  have nxtb : (∀ (hh : List va_E) (f1 b1 : Nat), gr r3 (c0 + 83 * i) (s0 + 343 * i) h0 hh → lMk hh a v nd n1 g1 bk n2 g2 ps r → rC hh T f1 b1 p → rW T f1 b1 us → rt_ X (d + 7) 24 115 [some (.ref 3), some (.int (nI no)), some (.long (nmI w)), none, some (.ref v), some (.ref a), some (.int (nI 1)), some (.int (nI i)), some (.ref bk), some (.int (tB (sl T f b = tx 2))), l10, l11, l12] [] hh (rlP h0 T (c0 + 83 * 13) (s0 + 343 * 13) ((pCl (n + 1) (u :: us) (lNe r) (lBr r) (lOw r)).map (fun q => (lNo r, lNm r, lVe r, q.1, q.2.1, q.2.2))))) → rt_ X (d + 7) 24 101 [some (.ref 3), some (.int (nI no)), some (.long (nmI w)), none, some (.ref v), some (.ref a), some (.int (nI 1)), some (.int (nI i)), l8, l9, l10, l11, l12] [.ref bk] h (rlP h0 T (c0 + 83 * 13) (s0 + 343 * 13) ((pCl (n + 1) (u :: us) (lNe r) (lBr r) (lOw r)).map (fun q => (lNo r, lNm r, lVe r, q.1, q.2.1, q.2.2)))) := fun k => by
    refine rt_k (k := 3) (pc' := 106) (L' := [some (.ref 3), some (.int (nI no)), some (.long (nmI w)), none, some (.ref v), some (.ref a), some (.int (nI 1)), some (.int (nI i)), some (.ref bk), l9, l10, l11, l12]) (st' := [.retAddr 2, .ref 3]) (h' := h) (fun _ => rfl) ?_
    refine rt_cvE rfl (by decide) c rfl rfl rfl rfl (rd_wi2 C) ?_
    refine rt_k (k := 2) (pc' := 112) (L' := [some (.ref 3), some (.int (nI no)), some (.long (nmI w)), none, some (.ref v), some (.ref a), some (.int (nI 1)), some (.int (nI i)), some (.ref bk), some (.int (tB (sl T f b = tx 2))), l10, l11, l12]) (st' := [.ref 3]) (h' := h) (fun _ => rfl) ?_
    refine rt_cv rfl (by decide) c rfl rfl rfl rfl (rd_nx C) ?_
    rintro _ h2 ⟨rfl, F2, f2, b2, C2, W2⟩
    rw [← w2] at W2
    exact k h2 f2 b2 (gr_mo (gr_tr G (gr_fr F2)) (fun _ q => q) (by omega) (by omega)) (M.ex (fr_ex F2 r3_zz) zA) C2 W2
  have nxto : (∀ (hh : List va_E) (f1 b1 : Nat), gr r3 (c0 + 83 * i) (s0 + 343 * i) h0 hh → lMk hh a v nd n1 g1 bk n2 g2 ps r → rC hh T f1 b1 p → rW T f1 b1 us → rt_ X (d + 7) 24 115 [some (.ref 3), some (.int (nI no)), some (.long (nmI w)), none, some (.ref v), some (.ref a), some (.int (nI 1)), some (.int (nI i)), some (.null), some (.int (tB (sl T f b = tx 2))), l10, l11, l12] [] hh (rlP h0 T (c0 + 83 * 13) (s0 + 343 * 13) ((pCl (n + 1) (u :: us) (lNe r) (lBr r) (lOw r)).map (fun q => (lNo r, lNm r, lVe r, q.1, q.2.1, q.2.2))))) → rt_ X (d + 7) 24 101 [some (.ref 3), some (.int (nI no)), some (.long (nmI w)), none, some (.ref v), some (.ref a), some (.int (nI 1)), some (.int (nI i)), l8, l9, l10, l11, l12] [.null] h (rlP h0 T (c0 + 83 * 13) (s0 + 343 * 13) ((pCl (n + 1) (u :: us) (lNe r) (lBr r) (lOw r)).map (fun q => (lNo r, lNm r, lVe r, q.1, q.2.1, q.2.2)))) := fun k => by
    refine rt_k (k := 3) (pc' := 106) (L' := [some (.ref 3), some (.int (nI no)), some (.long (nmI w)), none, some (.ref v), some (.ref a), some (.int (nI 1)), some (.int (nI i)), some (.null), l9, l10, l11, l12]) (st' := [.retAddr 2, .ref 3]) (h' := h) (fun _ => rfl) ?_
    refine rt_cvE rfl (by decide) c rfl rfl rfl rfl (rd_wi2 C) ?_
    refine rt_k (k := 2) (pc' := 112) (L' := [some (.ref 3), some (.int (nI no)), some (.long (nmI w)), none, some (.ref v), some (.ref a), some (.int (nI 1)), some (.int (nI i)), some (.null), some (.int (tB (sl T f b = tx 2))), l10, l11, l12]) (st' := [.ref 3]) (h' := h) (fun _ => rfl) ?_
    refine rt_cv rfl (by decide) c rfl rfl rfl rfl (rd_nx C) ?_
    rintro _ h2 ⟨rfl, F2, f2, b2, C2, W2⟩
    rw [← w2] at W2
    exact k h2 f2 b2 (gr_mo (gr_tr G (gr_fr F2)) (fun _ q => q) (by omega) (by omega)) (M.ex (fr_ex F2 r3_zz) zA) C2 W2
  refine rt_k (k := 2) (pc' := 69) (L' := [some (.ref 3), some (.int (nI no)), some (.long (nmI w)), none, some (.ref v), some (.ref a), some (.int (nI 1)), some (.int (nI i)), l8, l9, l10, l11, l12]) (st' := [.retAddr 0, .ref 3]) (h' := h) (fun _ => rfl) ?_
  refine rt_cvE rfl (by decide) c rfl rfl rfl rfl (rd_wi0 C) ?_
  refine rt_pe rfl (fun y0 => ?_) (fun y0 => ?_)
  rotate_left
  ·
    refine rt_k (k := 1) (pc' := 77) (L' := [some (.ref 3), some (.int (nI no)), some (.long (nmI w)), none, some (.ref v), some (.ref a), some (.int (nI 1)), some (.int (nI i)), l8, l9, l10, l11, l12]) (st' := [.ref a]) (h' := h) (fun _ => rfl) ?_
    refine rt_gf rfl ca rfl rfl ?_
    refine rt_k (k := 1) (pc' := 101) (L' := [some (.ref 3), some (.int (nI no)), some (.long (nmI w)), none, some (.ref v), some (.ref a), some (.int (nI 1)), some (.int (nI i)), l8, l9, l10, l11, l12]) (st' := [.ref nd]) (h' := h) (fun _ => rfl) ?_
    exact nxtn (fun hh f1 b1 => demn (w1.trans y0) hh f1 b1 _ l10 l11 l12)
  refine rt_k (k := 2) (pc' := 86) (L' := [some (.ref 3), some (.int (nI no)), some (.long (nmI w)), none, some (.ref v), some (.ref a), some (.int (nI 1)), some (.int (nI i)), l8, l9, l10, l11, l12]) (st' := [.retAddr 1, .ref 3]) (h' := h) (fun _ => rfl) ?_
  refine rt_cvE rfl (by decide) c rfl rfl rfl rfl (rd_wi1 C) ?_
  refine rt_pe rfl (fun y1 => ?_) (fun y1 => ?_)
  rotate_left
  ·
    refine rt_k (k := 1) (pc' := 94) (L' := [some (.ref 3), some (.int (nI no)), some (.long (nmI w)), none, some (.ref v), some (.ref a), some (.int (nI 1)), some (.int (nI i)), l8, l9, l10, l11, l12]) (st' := [.ref a]) (h' := h) (fun _ => rfl) ?_
    refine rt_gf rfl ca rfl rfl ?_
    refine rt_k (k := 1) (pc' := 101) (L' := [some (.ref 3), some (.int (nI no)), some (.long (nmI w)), none, some (.ref v), some (.ref a), some (.int (nI 1)), some (.int (nI i)), l8, l9, l10, l11, l12]) (st' := [.ref bk]) (h' := h) (fun _ => rfl) ?_
    exact nxtb (fun hh f1 b1 => demb (w1.trans y1) hh f1 b1 _ l10 l11 l12)
  refine rt_k (k := 1) (pc' := 101) (L' := [some (.ref 3), some (.int (nI no)), some (.long (nmI w)), none, some (.ref v), some (.ref a), some (.int (nI 1)), some (.int (nI i)), l8, l9, l10, l11, l12]) (st' := [.null]) (h' := h) (fun _ => rfl) ?_
  refine nxto (fun hh f1 b1 Gh Mh Ch Wh => ?_)
  have n0 : ¬ u = tx 0 := fun q => y0 (w1.symm.trans q)
  have n1' : ¬ u = tx 1 := fun q => y1 (w1.symm.trans q)
  have eP : pCl (n + 1) (u :: us) (lNe r) (lBr r) (lOw r) = if u = tx 2 then (if (lOw r).length = 4 then none else match us with | [] => none | w' :: vs => if isPt w' = true then pCl n vs (lNe r) (lBr r) (lOw r ++ [w']) else none) else none := by rw [pCl_c, if_neg n0, if_neg n1']
  have ch := Ch.2.1
  have hh39 : 39 ≤ hh.length := by have := Gh.1; omega
  obtain ⟨-, -, cah, -⟩ := id Mh
  refine rt_k (k := 3) (pc' := 172) (L' := [some (.ref 3), some (.int (nI no)), some (.long (nmI w)), none, some (.ref v), some (.ref a), some (.int (nI 1)), some (.int (nI i)), some (.null), some (.int (tB (sl T f b = tx 2))), l10, l11, l12]) (st' := [.int (tB (sl T f b = tx 2))]) (h' := hh) (fun _ => rfl) ?_
  refine rt_pe rfl (fun y2 => ?_) (fun y2 => ?_)
  ·
    refine rt_k (k := 2) (pc' := 194) (L' := [some (.ref 3), some (.int (nI no)), some (.long (nmI w)), none, some (.ref v), some (.ref a), some (.int (nI 0)), some (.int (nI i)), some (.null), some (.int (tB (sl T f b = tx 2))), l10, l11, l12]) (st' := []) (h' := hh) (fun _ => rfl) ?_
    exact bad hh _ _ _ _ _ (gr_mo Gh (fun _ q => q) (by omega) (by omega)) ⟨f1, b1, p, Ch⟩ (by rw [eP, if_neg (fun q => y2 (w1.symm.trans q))])
  rw [if_pos (w1.trans y2)] at eP
  refine rt_k (k := 2) (pc' := 178) (L' := [some (.ref 3), some (.int (nI no)), some (.long (nmI w)), none, some (.ref v), some (.ref a), some (.int (nI 1)), some (.int (nI i)), some (.null), some (.int (tB (sl T f b = tx 2))), l10, l11, l12]) (st' := [.ref 3, .ref a]) (h' := hh) (fun _ => rfl) ?_
  refine rt_cv rfl (by decide) ch rfl rfl rfl rfl (rd_path hh39 Ch Wh) ?_
  rintro _ h2 ⟨g2', (⟨w', vs, pa, k1, k2, rfl, k4, k5, f2, b2, p2, C2, W2⟩ | ⟨k1, rfl, B2⟩)⟩
  ·
    have G2 : gr r3 (c0 + 83 * (i + 1)) (s0 + 343 * (i + 1)) h0 h2 := gr_mo (gr_tr Gh g2') (fun _ q => q) (by omega) (by omega)
    have M2 := Mh.ex (gr_ex g2' r3_zz) zA
    subst k1
    dsimp only at eP
    rw [if_pos k2] at eP
    obtain ⟨⟨N1', G1', a1', a2', a3', -⟩, ⟨N2', G2', b1', b2', b3', -⟩, ca', ⟨pf', e1', -⟩, -⟩ := id M2
    have hne : a ≠ ps ∧ nd ≠ ps ∧ n1 ≠ ps ∧ g1 ≠ ps ∧ bk ≠ ps ∧ n2 ≠ ps ∧ g2 ≠ ps := ⟨hc_ne ca' e1' (by intro q; cases q), hc_ne a1' e1' (by intro q; cases q), hc_ne a2' e1' (by intro q; cases q), hc_ne a3' e1' (by intro q; cases q), hc_ne b1' e1' (by intro q; cases q), hc_ne b2' e1' (by intro q; cases q), hc_ne b3' e1' (by intro q; cases q)⟩
    refine rt_cv rfl (by decide) ca' rfl rfl rfl rfl (rel_path M2 k5 hne) ?_
    rintro _ h3 (⟨i1, rfl, e9⟩ | ⟨i1, rfl, F3, M3⟩)
    ·
      rw [if_pos i1] at eP
      rw [e9]
      refine rt_k (k := 3) (pc' := 194) (L' := [some (.ref 3), some (.int (nI no)), some (.long (nmI w)), none, some (.ref v), some (.ref a), some (.int (nI 0)), some (.int (nI i)), some .null, some (.int (tB (sl T f b = tx 2))), l10, l11, l12]) (st' := []) (h' := h2) (fun _ => rfl) ?_
      exact bad h2 _ _ _ _ _ G2 ⟨f2, b2, p2, C2⟩ eP
    rw [if_neg (by omega)] at eP
    rw [eP]
    have G3 : gr r3 (c0 + 83 * (i + 1)) (s0 + 343 * (i + 1)) h0 h3 := ⟨by rw [F3.1]; exact G2.1, by rw [F3.1]; exact G2.2.1, by rw [F3.2.1]; exact G2.2.2.1, fun k hk hr => by rw [F3.2.2 k (by omega)]; exact G2.2.2.2 k hk hr⟩
    have C3 := rG_fr C2 F3 (by omega) (by omega) (by omega)
    refine rt_k (k := 4) (pc' := 194) (L' := [some (.ref 3), some (.int (nI no)), some (.long (nmI w)), none, some (.ref v), some (.ref a), some (.int (nI 1)), some (.int (nI i)), some .null, some (.int (tB (sl T f b = tx 2))), l10, l11, l12]) (st' := []) (h' := h3) (fun _ => rfl) ?_
    refine rt_inc (c := 1) rfl rfl ?_
    refine rt_k (k := 1) (pc' := 47) (L' := [some (.ref 3), some (.int (nI no)), some (.long (nmI w)), none, some (.ref v), some (.ref a), some (.int (nI 1)), some (.int (nI (i + 1))), some (.null), some (.int (tB (sl T f b = tx 2))), l10, l11, l12]) (st' := []) (h' := h3) (fun _ => rfl) ?_
    exact rl_lp h39 hA hd n (i + 1) (by omega) (lNo r, lNm r, lVe r, lNe r, lBr r, lOw r ++ [w']) h3 f2 b2 p2 vs G3 M3 C3 W2 _ _ _ _ _
  have G2 : gr r3 (c0 + 83 * (i + 1)) (s0 + 343 * (i + 1)) h0 h2 := gr_mo (gr_tr Gh g2') (fun _ q => q) (by omega) (by omega)
  have ca2 := gr_at g2' cah (by unfold r3; omega)
  have hap : rt_ X (d + 6) 53 0 [some (.ref a), some .null] [] h2 (fun v h' => v = some (.int (nI 0)) ∧ h' = h2) := by
    refine rt_k (k := 3) (pc' := 13) (L' := [some (.ref a), some (.null)]) (st' := [.int (nI 0)]) (h' := h2) (fun _ => rfl) ?_
    exact rt_r (v := some (.int (nI 0))) rfl rfl (⟨rfl, rfl⟩)
  refine rt_cvE rfl (by decide) ca2 rfl rfl rfl rfl hap ?_
  refine rt_k (k := 3) (pc' := 194) (L' := [some (.ref 3), some (.int (nI no)), some (.long (nmI w)), none, some (.ref v), some (.ref a), some (.int (nI 0)), some (.int (nI i)), some (.null), some (.int (tB (sl T f b = tx 2))), l10, l11, l12]) (st' := []) (h' := h2) (fun _ => rfl) ?_
  refine bad h2 _ _ _ _ _ G2 B2 ?_
  rw [eP]
  split
  · rfl
  · cases us with
    | nil => rfl
    | cons w' vs =>
      dsimp only
      rw [if_neg (fun y => k1 ⟨w', vs, rfl, y⟩)]
termination_by n
end LQ

