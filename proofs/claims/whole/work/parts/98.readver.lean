/-! A VERSION read. -/
theorem tw_all {P : Nat → Bool} : ∀ (l : List Nat), ∀ c ∈ l.takeWhile P, P c = true
  | [], c, h => by cases h
  | a :: l, c, h => by
    rw [List.takeWhile_cons] at h
    split at h
    · next q =>
      rcases List.mem_cons.mp h with e | e
      · rw [e]; exact q
      · exact tw_all l c e
    · cases h
section VR
variable {X : Nat × (Nat → Int32)} {d : Nat} {h : List va_E} {Q : Option Value → List va_E → Prop} {T : List Nat} {f b p : Nat} {ws : List kW}
/-- what a read leaves of the reader, when it went well -/
def rG (h' : List va_E) (T : List Nat) (ws : List kW) : Prop := ∃ f' b' p', rC h' T f' b' p' ∧ rW T f' b' ws
def rB (h' : List va_E) (T : List Nat) : Prop := ∃ f' b' p', rC h' T f' b' p'
def rvP (h : List va_E) (T : List Nat) (b : Nat) (o : Option kV) (v : Option Value) (h' : List va_E) : Prop := gr r3 2 8 h h' ∧ ((∃ u a, o = some u ∧ v = some (.ref a) ∧ h.length ≤ a ∧ zV h' a u ∧ rG h' T (wl (T.drop b))) ∨ (o = none ∧ v = some .null ∧ rB h' T))
theorem rv_lp {h0 : List va_E} {a k s : Nat} {n3 : Nat × Nat × Nat} {x y z : Int64} (h39 : 39 ≤ h0.length) (hak : h0.length ≤ a ∧ a < k) (n : Nat) (ms : List kW) (hn : ms.length + n = 4) (p : Nat) (h : List va_E) (G : gr r3 2 8 h0 h) (C : rC h T f b p) (hp : p ≤ b) (V : vM h a k (n3, ms)) (w1 w2 : Option Value) : rt_ X (d + 3) 32 91 [some (.ref 3), some (.int (nI s)), some (.long x), none, some (.long y), none, some (.long z), none, some (.ref a), some (.int (nI ms.length)), w1, w2] [] h (rvP h0 T b ((mR n ms.length ms (sl T p b)).map (fun m => (n3, m)))) := by
  obtain ⟨P, c, h1, h2, h3⟩ := id C
  have hT := P.2.2.1
  have V0 := V
  obtain ⟨g, ca, ck, -⟩ := V0
  have hG39 := G.1
  have okv : sl T p b = [] → rt_ X (d + 3) 32 176 [some (.ref 3), some (.int (nI s)), some (.long x), none, some (.long y), none, some (.long z), none, some (.ref a), some (.int (nI ms.length)), w1, w2] [] h (rvP h0 T b ((mR n ms.length ms (sl T p b)).map (fun m => (n3, m)))) := fun e => by
    rw [e, mR_nil]
    refine rt_k (k := 1) (pc' := 177) (L' := [some (.ref 3), some (.int (nI s)), some (.long x), none, some (.long y), none, some (.long z), none, some (.ref a), some (.int (nI ms.length)), w1, w2]) (st' := [.ref 3]) (h' := h) (fun _ => rfl) ?_
    refine rt_cv rfl (by decide) c rfl rfl rfl rfl (rd_nx C) ?_
    rintro _ h' ⟨rfl, f1, f', b', C1, W1⟩
    have V1 := V.fr f1 (show ¬ r3 a by unfold r3; omega) (show ¬ r3 k by unfold r3; omega)
    refine rt_k (k := 1) (pc' := 182) (L' := [some (.ref 3), some (.int (nI s)), some (.long x), none, some (.long y), none, some (.long z), none, some (.ref a), some (.int (nI ms.length)), w1, w2]) (st' := [.ref a]) (h' := h') (fun _ => rfl) ?_
    exact rt_r (v := some (.ref a)) rfl rfl (⟨gr_mo (gr_tr G (gr_fr f1)) (fun _ q => q) (by omega) (by omega), Or.inl ⟨(n3, ms), a, rfl, rfl, hak.1, V1.z (by unfold zz; omega) (by unfold zz; omega), f', b', p, C1, W1⟩⟩)
  have hl : (sl T p b).length = b - p := sl_len h2
  have emp : b ≤ p → sl T p b = [] := fun q => sl_nil q
  refine rt_k (k := 2) (pc' := 94) (L' := [some (.ref 3), some (.int (nI s)), some (.long x), none, some (.long y), none, some (.long z), none, some (.ref a), some (.int (nI ms.length)), w1, w2]) (st' := [.int (nI 4), .int (nI ms.length)]) (h' := h) (fun _ => rfl) ?_
  refine rt_ige rfl (by omega) (by decide) (fun z1 => ?_) (fun z1 => ?_)
  ·
    have e : n = 0 := by omega
    subst e
    refine rt_k (k := 1) (pc' := 164) (L' := [some (.ref 3), some (.int (nI s)), some (.long x), none, some (.long y), none, some (.long z), none, some (.ref a), some (.int (nI ms.length)), w1, w2]) (st' := [.ref 3]) (h' := h) (fun _ => rfl) ?_
    refine rt_gf rfl c rfl rfl ?_
    refine rt_k (k := 1) (pc' := 168) (L' := [some (.ref 3), some (.int (nI s)), some (.long x), none, some (.long y), none, some (.long z), none, some (.ref a), some (.int (nI ms.length)), w1, w2]) (st' := [.ref 3, .int (nI p)]) (h' := h) (fun _ => rfl) ?_
    refine rt_gf rfl c rfl rfl ?_
    refine rt_ige rfl (by omega) (by omega) (fun z2 => ?_) (fun z2 => ?_)
    ·
      exact okv (emp z2)
    have e2 : mR 0 ms.length ms (sl T p b) = none := by rw [sl_cons z2 h2]; rfl
    rw [e2]
    refine rt_k (k := 1) (pc' := 175) (L' := [some (.ref 3), some (.int (nI s)), some (.long x), none, some (.long y), none, some (.long z), none, some (.ref a), some (.int (nI ms.length)), w1, w2]) (st' := [.null]) (h' := h) (fun _ => rfl) ?_
    exact rt_r (v := some (.null)) rfl rfl (⟨G, Or.inr ⟨rfl, rfl, f, b, p, C⟩⟩)
  refine rt_k (k := 1) (pc' := 98) (L' := [some (.ref 3), some (.int (nI s)), some (.long x), none, some (.long y), none, some (.long z), none, some (.ref a), some (.int (nI ms.length)), w1, w2]) (st' := [.ref 3]) (h' := h) (fun _ => rfl) ?_
  refine rt_gf rfl c rfl rfl ?_
  refine rt_k (k := 1) (pc' := 102) (L' := [some (.ref 3), some (.int (nI s)), some (.long x), none, some (.long y), none, some (.long z), none, some (.ref a), some (.int (nI ms.length)), w1, w2]) (st' := [.ref 3, .int (nI p)]) (h' := h) (fun _ => rfl) ?_
  refine rt_gf rfl c rfl rfl ?_
  refine rt_ige rfl (by omega) (by omega) (fun z2 => ?_) (fun z2 => ?_)
  ·
    refine rt_k (k := 1) (pc' := 164) (L' := [some (.ref 3), some (.int (nI s)), some (.long x), none, some (.long y), none, some (.long z), none, some (.ref a), some (.int (nI ms.length)), w1, w2]) (st' := [.ref 3]) (h' := h) (fun _ => rfl) ?_
    refine rt_gf rfl c rfl rfl ?_
    refine rt_k (k := 1) (pc' := 168) (L' := [some (.ref 3), some (.int (nI s)), some (.long x), none, some (.long y), none, some (.long z), none, some (.ref a), some (.int (nI ms.length)), w1, w2]) (st' := [.ref 3, .int (nI p)]) (h' := h) (fun _ => rfl) ?_
    refine rt_gf rfl c rfl rfl ?_
    refine rt_ige rfl (by omega) (by omega) (fun _ => ?_) (fun z => absurd z (by omega))
    exact okv (emp z2)
  obtain ⟨n, rfl⟩ : ∃ n', n = n' + 1 := ⟨n - 1, by omega⟩
  have ec : sl T p b = T.getD p 0 :: sl T (p + 1) b := sl_cons z2 h2
  have eR : mR (n + 1) ms.length ms (sl T p b) = if T.getD p 0 = (if ms.length = 0 then 45 else 46) ∧ okM ((sl T (p + 1) b).takeWhile mkb) = true then mR n (ms.length + 1) (ms ++ [(sl T (p + 1) b).takeWhile mkb]) ((sl T (p + 1) b).dropWhile mkb) else none := by rw [ec, mR]
  have bad : ∀ h' q, gr r3 2 8 h0 h' → rC h' T f b q → mR (n + 1) ms.length ms (sl T p b) = none → rt_ X (d + 3) 32 137 [some (.ref 3), some (.int (nI s)), some (.long x), none, some (.long y), none, some (.long z), none, some (.ref a), some (.int (nI ms.length)), w1, w2] [.long (-1)] h' (rvP h0 T b ((mR (n + 1) ms.length ms (sl T p b)).map (fun m => (n3, m)))) := fun h' q G' C' e => by
    rw [e]
    refine rt_k (k := 3) (pc' := 142) (L' := [some (.ref 3), some (.int (nI s)), some (.long x), none, some (.long y), none, some (.long z), none, some (.ref a), some (.int (nI ms.length)), some (.long (-1)), none]) (st' := [.long 0, .long (-1)]) (h' := h') (fun _ => by cases w1 <;> rfl) ?_
    refine rt_k (k := 1) (pc' := 143) (L' := [some (.ref 3), some (.int (nI s)), some (.long x), none, some (.long y), none, some (.long z), none, some (.ref a), some (.int (nI ms.length)), some (.long (-1)), none]) (st' := [.int (lg_cmp (-1) 0)]) (h' := h') (fun _ => rfl) ?_
    refine rt_lge rfl (fun z => absurd z ((by decide))) (fun _ => ?_)
    refine rt_k (k := 1) (pc' := 147) (L' := [some (.ref 3), some (.int (nI s)), some (.long x), none, some (.long y), none, some (.long z), none, some (.ref a), some (.int (nI ms.length)), some (.long (-1)), none]) (st' := [.null]) (h' := h') (fun _ => rfl) ?_
    exact rt_r (v := some (.null)) rfl rfl (⟨G', Or.inr ⟨rfl, rfl, f, b, q, C'⟩⟩)
  have main : ∀ kc : Nat, kc < 256 → kc = (if ms.length = 0 then 45 else 46) → rt_ X (d + 3) 32 121 [some (.ref 3), some (.int (nI s)), some (.long x), none, some (.long y), none, some (.long z), none, some (.ref a), some (.int (nI ms.length)), w1, w2] [.int (nI kc), .ref 3] h (rvP h0 T b ((mR (n + 1) ms.length ms (sl T p b)).map (fun m => (n3, m)))) := fun kc hkc ekc => by
    refine rt_cv rfl (by decide) c rfl rfl rfl rfl (rd_takes C hp hkc) ?_
    rintro _ h1' (⟨q1, rfl, f1, C1⟩ | ⟨q1, rfl, e9⟩)
    ·
      have c1 := C1.2.1
      have V1 := V.fr f1 (show ¬ r3 a by unfold r3; omega) (show ¬ r3 k by unfold r3; omega)
      have G1 := gr_mo (gr_tr G (gr_fr f1)) (fun _ q => q) (show 2 + 0 ≤ 2 by omega) (show 8 + 0 ≤ 8 by omega)
      refine rt_k (k := 2) (pc' := 128) (L' := [some (.ref 3), some (.int (nI s)), some (.long x), none, some (.long y), none, some (.long z), none, some (.ref a), some (.int (nI ms.length)), w1, w2]) (st' := [.ref 3]) (h' := h1') (fun _ => rfl) ?_
      refine rt_cv rfl (by decide) c1 rfl rfl rfl rfl (rd_takeMark C1 (by omega)) ?_
      rintro _ h2' ⟨f2, (⟨p2, m1, m2, m3, rfl, m5, m6, C2⟩ | ⟨m1, rfl, p2, m6, C2⟩)⟩
      ·
        have G2 := gr_mo (gr_tr G1 (gr_fr f2)) (fun _ q => q) (show 2 + 0 ≤ 2 by omega) (show 8 + 0 ≤ 8 by omega)
        have V2 := V1.fr f2 (show ¬ r3 a by unfold r3; omega) (show ¬ r3 k by unfold r3; omega)
        rw [if_pos ⟨by rw [q1.2, ekc], m1⟩, m2, m3] at eR
        rw [eR]
        refine rt_k (k := 4) (pc' := 142) (L' := [some (.ref 3), some (.int (nI s)), some (.long x), none, some (.long y), none, some (.long z), none, some (.ref a), some (.int (nI ms.length)), some (.long (mkI (sl T (p + 1) p2))), none]) (st' := [.long 0, .long (mkI (sl T (p + 1) p2))]) (h' := h2') (fun _ => by cases w1 <;> rfl) ?_
        have hlen : (sl T (p + 1) p2).length ≤ 8 := by
          rw [m2] at m1
          unfold okM at m1
          simp only [Bool.and_eq_true, decide_eq_true_eq] at m1
          omega
        have hmk : ∀ c ∈ sl T (p + 1) p2, mkb c = true := by rw [← m2]; exact tw_all _
        obtain ⟨g2, ca2, ck2, -⟩ := id V2
        refine rt_k (k := 1) (pc' := 143) (L' := [some (.ref 3), some (.int (nI s)), some (.long x), none, some (.long y), none, some (.long z), none, some (.ref a), some (.int (nI ms.length)), some (.long (mkI (sl T (p + 1) p2))), none]) (st' := [.int (lg_cmp (mkI (sl T (p + 1) p2)) 0)]) (h' := h2') (fun _ => rfl) ?_
        refine rt_lge rfl (fun _ => ?_) (fun z => absurd z ((fun w => mkI_nn hmk hlen w)))
        refine rt_k (k := 3) (pc' := 154) (L' := [some (.ref 3), some (.int (nI s)), some (.long x), none, some (.long y), none, some (.long z), none, some (.ref a), some (.int (nI ms.length)), some (.long (mkI (sl T (p + 1) p2))), none]) (st' := [.long (mkI (sl T (p + 1) p2)), .int (nI ms.length), .ref a]) (h' := h2') (fun _ => rfl) ?_
        refine rt_cv rfl (by decide) ca2 rfl rfl rfl rfl (ver_set V2 (by omega) (by omega)) ?_
        rintro _ h3' ⟨rfl, f3, V3⟩
        have G3 : gr r3 2 8 h0 h3' := ⟨by rw [f3.1]; exact G2.1, by rw [f3.1]; exact G2.2.1, by rw [f3.2.1]; exact G2.2.2.1, fun q hq hr => by rw [f3.2.2 q (by omega)]; exact G2.2.2.2 q hq hr⟩
        have C3 : rC h3' T f b p2 := by
          obtain ⟨⟨u1, ⟨gg, u2, u3⟩, u4, u5⟩, u6, u7⟩ := C2
          exact ⟨⟨fr_at f3 (by omega) u1, ⟨gg, fr_at f3 (by omega) u2, u3⟩, u4, u5⟩, fr_at f3 (by omega) u6, u7⟩
        refine rt_inc (c := 1) rfl rfl ?_
        refine rt_k (k := 1) (pc' := 91) (L' := [some (.ref 3), some (.int (nI s)), some (.long x), none, some (.long y), none, some (.long z), none, some (.ref a), some (.int (nI (ms.length + 1))), some (.long (mkI (sl T (p + 1) p2))), none]) (st' := []) (h' := h3') (fun _ => rfl) ?_
        have el : ms.length + 1 = (ms ++ [sl T (p + 1) p2]).length := by rw [List.length_append]; rfl
        rw [el]
        exact rv_lp h39 hak n (ms ++ [sl T (p + 1) p2]) (by rw [← el]; omega) p2 h3' G3 C3 m6 V3 _ _
      refine rt_k (k := 1) (pc' := 137) (L' := [some (.ref 3), some (.int (nI s)), some (.long x), none, some (.long y), none, some (.long z), none, some (.ref a), some (.int (nI ms.length)), w1, w2]) (st' := [.long (-1)]) (h' := h2') (fun _ => rfl) ?_
      exact bad h2' p2 (gr_mo (gr_tr G1 (gr_fr f2)) (fun _ q => q) (by omega) (by omega)) C2 (by rw [eR, if_neg (fun w => by rw [m1] at w; cases w.2)])
    rw [e9]
    refine rt_k (k := 2) (pc' := 137) (L' := [some (.ref 3), some (.int (nI s)), some (.long x), none, some (.long y), none, some (.long z), none, some (.ref a), some (.int (nI ms.length)), w1, w2]) (st' := [.long (-1)]) (h' := h) (fun _ => rfl) ?_
    exact bad h p G C (by rw [eR, if_neg (fun w => q1 ⟨z2, by rw [w.1, ekc]⟩)])
  refine rt_k (k := 2) (pc' := 111) (L' := [some (.ref 3), some (.int (nI s)), some (.long x), none, some (.long y), none, some (.long z), none, some (.ref a), some (.int (nI ms.length)), w1, w2]) (st' := [.int (nI ms.length), .ref 3]) (h' := h) (fun _ => rfl) ?_
  refine rt_zne rfl (by omega) (fun z3 => ?_) (fun z3 => ?_)
  ·
    refine rt_k (k := 1) (pc' := 121) (L' := [some (.ref 3), some (.int (nI s)), some (.long x), none, some (.long y), none, some (.long z), none, some (.ref a), some (.int (nI ms.length)), w1, w2]) (st' := [.int (nI 46), .ref 3]) (h' := h) (fun _ => rfl) ?_
    exact main 46 (by decide) (by rw [if_neg (by omega)])
  refine rt_k (k := 2) (pc' := 121) (L' := [some (.ref 3), some (.int (nI s)), some (.long x), none, some (.long y), none, some (.long z), none, some (.ref a), some (.int (nI ms.length)), w1, w2]) (st' := [.int (nI 45), .ref 3]) (h' := h) (fun _ => rfl) ?_
  exact main 45 (by decide) (by rw [if_pos z3])
termination_by n
theorem lI_lt {n : Nat} (h : n < 1000000000) : ¬ lI n < 0 := lI_nn (by omega)
theorem pDot_c {c : Nat} {t : kW} : pDot (c :: t) = if c = 46 then some t else none := by
  by_cases q : c = 46
  · subst q; rfl
  · rw [if_neg q]
    unfold pDot
    split
    · next h => cases h; exact absurd rfl q
    · rfl
/-- a dot and a number behind it -/
def pDN (w : kW) : Option (Nat × kW) := (pDot w).bind (pNum 9)
theorem pDN_n {p : Nat} (hb : b ≤ T.length) (h : ¬ (p < b ∧ T.getD p 0 = 46)) : pDN (sl T p b) = none := by
  unfold pDN
  by_cases q : p < b
  · rw [sl_cons q hb, pDot_c, if_neg (fun w => h ⟨q, w⟩)]; rfl
  · rw [sl_nil (by omega)]; rfl
theorem pDN_s {p : Nat} (hb : b ≤ T.length) (h : p < b ∧ T.getD p 0 = 46) : pDN (sl T p b) = pNum 9 (sl T (p + 1) b) := by
  unfold pDN
  rw [sl_cons h.1 hb, pDot_c, if_pos h.2]; rfl
theorem pV3_D (w : kW) : pV3 w = (pNum 9 w).bind fun a => (pDN a.2).bind fun c => (pDN c.2).map fun f => ((a.1, c.1, f.1), f.2) := by
  unfold pV3 pDN
  cases pNum 9 w with
  | none => rfl
  | some a =>
    simp only [Option.bind_some]
    cases pDot a.2 with
    | none => rfl
    | some b =>
      simp only [Option.bind_some]
      cases pNum 9 b with
      | none => rfl
      | some c =>
        simp only [Option.bind_some]
        cases pDot c.2 with
        | none => rfl
        | some e => rfl
theorem rd_ver {s : Nat} (h39 : 39 ≤ h.length) (C : rC h T f b p) (hs : s ≤ b) : rt_ X (d + 3) 32 0 [some (.ref 3), some (.int (nI s)), none, none, none, none, none, none, none, none, none, none] [] h (rvP h T b (pVer (sl T s b))) := by
  obtain ⟨P, c, h1, h2, h3⟩ := id C
  have hT := P.2.2.1
  rw [pVer_mR, pV3_D]
  refine rt_k (k := 2) (pc' := 2) (L' := [some (.ref 3), some (.int (nI s)), none, none, none, none, none, none, none, none, none, none]) (st' := [.int (nI s), .ref 3]) (h' := h) (fun _ => rfl) ?_
  refine rt_pf rfl c ⟨rfl, (show 3 < 4 by decide), rfl⟩ ?_
  refine rt_nm (fun h_1 e_2 => ?_)
  have f_3 : fr_ (r3) h h_1 := by rw [e_2]; exact fr_set (e' := .inr (2, [.ref 1, .int (nI f), .int (nI b), .int (nI s)])) c (by rfl) (by first | decide | simp)
  have n_4 : h_1.length = h.length := by rw [e_2]; simp
  have c_5 : h_1[3]? = some (.inr (2, [.ref 1, .int (nI f), .int (nI b), .int (nI s)])) := by rw [e_2]; exact hs_self c
  have f0 := f_3
  have C0 : rC h_1 T f b s := ⟨tp_fr P f_3, c_5, h1, h2, by omega⟩
  have c0 := c_5
  generalize h_1 = h0 at *
  have nul : ∀ (hh : List va_E) (q : Nat) (x y : Int64) (l2 l3 l4 l5 l6 l7 : Option Value), fr_ r3 h hh → rC hh T f b q → rt_ X (d + 3) 32 63 [some (.ref 3), some (.int (nI s)), some (.long x), none, some (.long y), none, l2, l3, l4, l5, l6, l7] [.long (-1)] hh (rvP h T b none) := fun hh q x y l2 l3 l4 l5 l6 l7 fh Ch => by
    refine rt_k (k := 3) (pc' := 68) (L' := [some (.ref 3), some (.int (nI s)), some (.long x), none, some (.long y), none, some (.long (-1)), none, l4, l5, l6, l7]) (st' := [.long 0, .long (-1)]) (h' := hh) (fun _ => rfl) ?_
    refine rt_k (k := 1) (pc' := 69) (L' := [some (.ref 3), some (.int (nI s)), some (.long x), none, some (.long y), none, some (.long (-1)), none, l4, l5, l6, l7]) (st' := [.int (lg_cmp (-1) 0)]) (h' := hh) (fun _ => rfl) ?_
    refine rt_lge rfl (fun z => absurd z ((by decide))) (fun _ => ?_)
    refine rt_k (k := 1) (pc' := 73) (L' := [some (.ref 3), some (.int (nI s)), some (.long x), none, some (.long y), none, some (.long (-1)), none, l4, l5, l6, l7]) (st' := [.null]) (h' := hh) (fun _ => rfl) ?_
    exact rt_r (v := some (.null)) rfl rfl (⟨gr_mo (gr_fr fh) (fun _ q => q) (by omega) (by omega), Or.inr ⟨rfl, rfl, f, b, q, Ch⟩⟩)
  have nul2 : ∀ (hh : List va_E) (q : Nat) (x : Int64), fr_ r3 h hh → rC hh T f b q → rt_ X (d + 3) 32 35 [some (.ref 3), some (.int (nI s)), some (.long x), none, none, none, none, none, none, none, none, none] [.long (-1)] hh (rvP h T b none) := fun hh q x fh Ch => by
    refine rt_k (k := 3) (pc' := 40) (L' := [some (.ref 3), some (.int (nI s)), some (.long x), none, some (.long (-1)), none, none, none, none, none, none, none]) (st' := [.long 0, .long (-1)]) (h' := hh) (fun _ => rfl) ?_
    refine rt_k (k := 1) (pc' := 41) (L' := [some (.ref 3), some (.int (nI s)), some (.long x), none, some (.long (-1)), none, none, none, none, none, none, none]) (st' := [.int (lg_cmp (-1) 0)]) (h' := hh) (fun _ => rfl) ?_
    refine rt_llt rfl (fun _ => ?_) (fun z => absurd z ((by decide)))
    refine rt_k (k := 1) (pc' := 63) (L' := [some (.ref 3), some (.int (nI s)), some (.long x), none, some (.long (-1)), none, none, none, none, none, none, none]) (st' := [.long (-1)]) (h' := hh) (fun _ => rfl) ?_
    exact nul hh q x (-1) none none none none none none fh Ch
  refine rt_k (k := 1) (pc' := 6) (L' := [some (.ref 3), some (.int (nI s)), none, none, none, none, none, none, none, none, none, none]) (st' := [.ref 3]) (h' := h0) (fun _ => rfl) ?_
  refine rt_cv rfl (by decide) c0 rfl rfl rfl rfl (rd_takeNum C0 hs) ?_
  rintro _ h1' ⟨f1, (⟨n0, p1, m1, m2, rfl, m3, m4, C1⟩ | ⟨m1, rfl, p1, m4, C1⟩)⟩
  ·
    have c1 := C1.2.1
    have g1 := fr_tr f0 f1
    rw [m1, Option.bind_some]
    refine rt_k (k := 4) (pc' := 13) (L' := [some (.ref 3), some (.int (nI s)), some (.long (lI n0)), none, none, none, none, none, none, none, none, none]) (st' := [.int (lg_cmp (lI n0) 0)]) (h' := h1') (fun _ => rfl) ?_
    refine rt_llt rfl (fun z => absurd z ((lI_lt m2))) (fun _ => ?_)
    refine rt_k (k := 2) (pc' := 19) (L' := [some (.ref 3), some (.int (nI s)), some (.long (lI n0)), none, none, none, none, none, none, none, none, none]) (st' := [.int (nI 46), .ref 3]) (h' := h1') (fun _ => rfl) ?_
    refine rt_cv rfl (by decide) c1 rfl rfl rfl rfl (rd_takes C1 m4 (k := 46) (by decide)) ?_
    rintro _ h2' (⟨q1, rfl, f2, C2⟩ | ⟨q1, rfl, e9⟩)
    ·
      rw [pDN_s h2 q1]
      have c2 := C2.2.1
      refine rt_k (k := 2) (pc' := 26) (L' := [some (.ref 3), some (.int (nI s)), some (.long (lI n0)), none, none, none, none, none, none, none, none, none]) (st' := [.ref 3]) (h' := h2') (fun _ => rfl) ?_
      refine rt_cv rfl (by decide) c2 rfl rfl rfl rfl (rd_takeNum C2 (by omega)) ?_
      rintro _ h3' ⟨f3, (⟨n1, p2, m5, m6, rfl, m7, m8, C3⟩ | ⟨m5, rfl, p2, m8, C3⟩)⟩
      ·
        have c3 := C3.2.1
        have g3 := fr_tr (fr_tr g1 f2) f3
        rw [m5, Option.bind_some]
        refine rt_k (k := 5) (pc' := 41) (L' := [some (.ref 3), some (.int (nI s)), some (.long (lI n0)), none, some (.long (lI n1)), none, none, none, none, none, none, none]) (st' := [.int (lg_cmp (lI n1) 0)]) (h' := h3') (fun _ => rfl) ?_
        refine rt_llt rfl (fun z => absurd z ((lI_lt m6))) (fun _ => ?_)
        refine rt_k (k := 2) (pc' := 47) (L' := [some (.ref 3), some (.int (nI s)), some (.long (lI n0)), none, some (.long (lI n1)), none, none, none, none, none, none, none]) (st' := [.int (nI 46), .ref 3]) (h' := h3') (fun _ => rfl) ?_
        refine rt_cv rfl (by decide) c3 rfl rfl rfl rfl (rd_takes C3 m8 (k := 46) (by decide)) ?_
        rintro _ h4' (⟨q2, rfl, f4, C4⟩ | ⟨q2, rfl, e9⟩)
        ·
          rw [pDN_s h2 q2]
          have c4 := C4.2.1
          refine rt_k (k := 2) (pc' := 54) (L' := [some (.ref 3), some (.int (nI s)), some (.long (lI n0)), none, some (.long (lI n1)), none, none, none, none, none, none, none]) (st' := [.ref 3]) (h' := h4') (fun _ => rfl) ?_
          refine rt_cv rfl (by decide) c4 rfl rfl rfl rfl (rd_takeNum C4 (by omega)) ?_
          rintro _ h5' ⟨f5, (⟨n2, p3, m9, m10, rfl, m11, m12, C5⟩ | ⟨m9, rfl, p3, m12, C5⟩)⟩
          ·
            have g5 := fr_tr (fr_tr g3 f4) f5
            rw [m9, Option.map_some, Option.bind_some]
            have c5 := C5.2.1
            have l5 : h5'.length = h.length := g5.1
            refine rt_k (k := 5) (pc' := 69) (L' := [some (.ref 3), some (.int (nI s)), some (.long (lI n0)), none, some (.long (lI n1)), none, some (.long (lI n2)), none, none, none, none, none]) (st' := [.int (lg_cmp (lI n2) 0)]) (h' := h5') (fun _ => rfl) ?_
            refine rt_lge rfl (fun _ => ?_) (fun z => absurd z ((lI_lt m10)))
            refine rt_k (k := 1) (pc' := 77) (L' := [some (.ref 3), some (.int (nI s)), some (.long (lI n0)), none, some (.long (lI n1)), none, some (.long (lI n2)), none, none, none, none, none]) (st' := [.ref h5'.length]) (h' := (h5' ++ [.inr (8, [.null])])) (fun _ => rfl) ?_
            refine rt_nm (fun h_6 e_7 => ?_)
            have g_8 : gr (fun _ => False) 1 (1) h5' h_6 := by rw [e_7]; exact gr_mo (gr_tr (gr_rf (h := h5')) (gr_app (.inr (8, [.null])))) (fun _ q => q) (by first | exact Nat.le_refl _ | omega) (by first | exact Nat.le_refl _ | (simp only [ab_z]; omega))
            have n_9 : h_6.length = h5'.length + 1 := by rw [e_7]; simp
            have c_10 : h_6[3]? = some (.inr (2, [.ref 1, .int (nI f), .int (nI b), .int (nI p3)])) := by rw [e_7]; exact ha_old _ c5
            have c_11 : h_6[h5'.length]? = some (.inr (8, [.null])) := by rw [e_7]; exact ha_new
            refine rt_k (k := 4) (pc' := 83) (L' := [some (.ref 3), some (.int (nI s)), some (.long (lI n0)), none, some (.long (lI n1)), none, some (.long (lI n2)), none, none, none, none, none]) (st' := [.long (lI n2), .long (lI n1), .long (lI n0), .ref h5'.length, .ref h5'.length]) (h' := h_6) (fun _ => rfl) ?_
            have gA := g_8
            have cA := c_11
            have lA : h_6.length = h5'.length + 1 := by omega
            generalize h_6 = h6 at *
            refine rt_c rfl rfl (ver_mk cA) ?_
            rintro _ h7 ⟨rfl, g7, V7⟩
            have hk : ∀ q, q < h5'.length → h7[q]? = h5'[q]? := fun q hq => (g7.2.2.2 q (by omega) (by omega)).trans (gA.2.2.2 q hq id)
            have G7 : gr r3 2 8 h h7 := by
              refine ⟨by have := g7.1; omega, by have := g7.2.1; omega, ?_, fun q hq hr => ?_⟩
              · have u1 := g7.2.2.1
                have u2 := gA.2.2.1
                have u3 := g5.2.1
                omega
              · rw [hk q (by omega)]
                exact g5.2.2 q hr
            have C7 : rC h7 T f b p3 := by
              obtain ⟨⟨u1, ⟨gg, u2, u3⟩, u4, u5⟩, u6, u7⟩ := C5
              exact ⟨⟨(hk 1 (by omega)).trans u1, ⟨gg, (hk 2 (by omega)).trans u2, u3⟩, u4, u5⟩, (hk 3 (by omega)).trans u6, u7⟩
            refine rt_k (k := 3) (pc' := 91) (L' := [some (.ref 3), some (.int (nI s)), some (.long (lI n0)), none, some (.long (lI n1)), none, some (.long (lI n2)), none, some (.ref h5'.length), some (.int (nI 0)), none, none]) (st' := []) (h' := h7) (fun _ => rfl) ?_
            exact rv_lp h39 ⟨by omega, by omega⟩ 4 [] rfl p3 h7 G7 C7 m12 V7 _ _
          rw [m9]
          refine rt_k (k := 1) (pc' := 63) (L' := [some (.ref 3), some (.int (nI s)), some (.long (lI n0)), none, some (.long (lI n1)), none, none, none, none, none, none, none]) (st' := [.long (-1)]) (h' := h5') (fun _ => rfl) ?_
          exact nul h5' p3 _ _ _ _ _ _ _ _ (fr_tr (fr_tr g3 f4) f5) C5
        rw [pDN_n h2 q2, e9]
        refine rt_k (k := 2) (pc' := 63) (L' := [some (.ref 3), some (.int (nI s)), some (.long (lI n0)), none, some (.long (lI n1)), none, none, none, none, none, none, none]) (st' := [.long (-1)]) (h' := h3') (fun _ => rfl) ?_
        exact nul h3' p2 _ _ _ _ _ _ _ _ g3 C3
      rw [m5]
      refine rt_k (k := 1) (pc' := 35) (L' := [some (.ref 3), some (.int (nI s)), some (.long (lI n0)), none, none, none, none, none, none, none, none, none]) (st' := [.long (-1)]) (h' := h3') (fun _ => rfl) ?_
      exact nul2 h3' p2 _ (fr_tr (fr_tr g1 f2) f3) C3
    rw [pDN_n h2 q1, e9]
    refine rt_k (k := 2) (pc' := 35) (L' := [some (.ref 3), some (.int (nI s)), some (.long (lI n0)), none, none, none, none, none, none, none, none, none]) (st' := [.long (-1)]) (h' := h1') (fun _ => rfl) ?_
    exact nul2 h1' p1 _ g1 C1
  rw [m1]
  have g1 := fr_tr f0 f1
  refine rt_k (k := 4) (pc' := 13) (L' := [some (.ref 3), some (.int (nI s)), some (.long (-1)), none, none, none, none, none, none, none, none, none]) (st' := [.int (lg_cmp (-1) 0)]) (h' := h1') (fun _ => rfl) ?_
  refine rt_llt rfl (fun _ => ?_) (fun z => absurd z ((by decide)))
  refine rt_k (k := 1) (pc' := 35) (L' := [some (.ref 3), some (.int (nI s)), some (.long (-1)), none, none, none, none, none, none, none, none, none]) (st' := [.long (-1)]) (h' := h1') (fun _ => rfl) ?_
  exact nul2 h1' p1 _ g1 C1
theorem rd_version (h39 : 39 ≤ h.length) (C : rC h T f b p) : rt_ X (d + 4) 31 0 [some (.ref 3)] [] h (rvP h T b (pVer (sl T f b))) := by
  obtain ⟨P, c, h1, h2, h3⟩ := id C
  have hT := P.2.2.1
  refine rt_k (k := 2) (pc' := 2) (L' := [some (.ref 3)]) (st' := [.ref 3, .ref 3]) (h' := h) (fun _ => rfl) ?_
  refine rt_gf rfl c rfl rfl ?_
  refine rt_cv rfl (by decide) c rfl rfl rfl rfl (rd_ver h39 C h1) ?_
  rintro v h' ⟨g, q⟩
  rcases q with ⟨u, a, q1, q2, q3⟩ | ⟨q1, q2, q3⟩
  · subst q2
    exact rt_r (v := some (.ref a)) rfl rfl ⟨g, Or.inl ⟨u, a, q1, rfl, q3⟩⟩
  · subst q2
    exact rt_r (v := some .null) rfl rfl ⟨g, Or.inr ⟨q1, rfl, q3⟩⟩
end VR

