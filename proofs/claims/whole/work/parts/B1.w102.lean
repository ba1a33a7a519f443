/-! THE REFERENCE, 37: install. -/
theorem gr_w2 {A B : Nat → Prop} {c s : Nat} {h0 h h' : List va_E} (G : gr A c s h0 h) (F : fr_ B h h') (hB : ∀ k, B k → h0.length ≤ k ∨ A k) : gr A c s h0 h' := ⟨by rw [F.1]; exact G.1, by rw [F.1]; exact G.2.1, by rw [F.2.1]; exact G.2.2.1, fun k hk hn => by rw [F.2.2 k (fun q => (hB k q).elim (fun y => by omega) hn)]; exact G.2.2.2 k hk hn⟩
theorem fm_map (g : kG) : (g.map (fun e => some e.1)).filterMap id = g.map Prod.fst := by
  induction g with
  | nil => rfl
  | cons e g ih => show e.1 :: _ = e.1 :: _; rw [ih]
def fLs (ad : Nat → Nat) (F : Nat → Option Nat) (L : List kL) : Prop := ∀ (j : Nat) s, L[j]? = some s → F j = some (ad (lNo s))
theorem fLs_i {ad : Nat → Nat} {F : Nat → Option Nat} {L : List kL} {p : Nat} {r : kL} (C : fLs ad F L) (hp : p ≤ L.length) : fLs ad (va_up (shu F p L.length) p (some (ad (lNo r)))) (L.take p ++ r :: L.drop p) := fun i u hu => by
  unfold va_up shu
  rcases Nat.lt_trichotomy i p with q | q | q
  · rw [if_neg (by omega), if_neg (by omega)]
    rw [List.getElem?_append_left (by rw [List.length_take]; omega), List.getElem?_take, if_pos q] at hu
    exact C i u hu
  · subst q
    rw [if_pos rfl]
    rw [List.getElem?_append_right (by rw [List.length_take]; omega), List.length_take, show i - min i L.length = 0 by omega] at hu
    cases hu
    rfl
  · rw [List.getElem?_append_right (by rw [List.length_take]; omega), List.length_take, show i - min p L.length = (i - p - 1) + 1 by omega, List.getElem?_cons_succ, List.getElem?_drop, show p + (i - p - 1) = i - 1 by omega] at hu
    have := gt_lt hu
    rw [if_neg (by omega), if_pos ⟨q, by omega⟩]
    exact C (i - 1) u hu
section NM
variable {X : Nat × (Nat → Int32)} {d : Nat} {h : List va_E} {Q : Option Value → List va_E → Prop} {ad : Nat → Nat} {T : List Nat} {J : List kL} {nx : Nat} {D : kD} {K : List kG} {made : Nat} {st : kS}
variable {nw pa nc bc kn hw cu : Int32} {g : kG} {sa ga : Nat}
/-- all that are installed are in the index -/
theorem m_is1 (c23 : h[23]? = some (mo (nI T.length) nw pa (mq (nI J.length) (nI nx) (nI D.length) (nI K.length) (nI made) (nI st.length) nc bc kn))) (CI : mI h ad J) (YG : yG h ad ga g) (hb : (∀ s ∈ J, lNo s < 2147483648) ∧ bG g) (n : Int32) (x8 : Option Value) (k : ∀ y7, rt_ X (d + 1) 167 83 [some (.ref 23), some (.int hw), some (.int cu), some (.ref sa), some (.int n), some (.ref ga), some (.int (tB (hw = 0 ∧ ∀ e ∈ g, ∃ r ∈ J, lNo r = lNo e.1))), y7, x8] [] h Q) (i : Nat) (hi : i ≤ g.length) (P : Prop) (hP : P ↔ hw = 0 ∧ ∀ (j : Nat) e, j < i → g[j]? = some e → ∃ r ∈ J, lNo r = lNo e.1) : rt_ X (d + 1) 167 40 [some (.ref 23), some (.int hw), some (.int cu), some (.ref sa), some (.int n), some (.ref ga), some (.int (tB P)), some (.int (nI i)), x8] [] h Q := by
  obtain ⟨rl, ci, RF, CF, ⟨-, cg⟩, ⟨-, cl⟩, ⟨-, cc⟩, g8, HG⟩ := id YG
  refine rt_k (k := 2) (pc' := 44) (L' := [some (.ref 23), some (.int hw), some (.int cu), some (.ref sa), some (.int n), some (.ref ga), some (.int (tB P)), some (.int (nI i)), x8]) (st' := [.ref ga, .int (nI i)]) (h' := h) (fun _ => by first | rfl | (cases x8 <;> rfl)) ?_
  refine rt_gf rfl cg rfl rfl ?_
  refine rt_ige rfl (by omega) (by omega) (fun z0 => ?_) (fun z0 => ?_)
  ·
    have e : P ↔ hw = 0 ∧ ∀ e ∈ g, ∃ r ∈ J, lNo r = lNo e.1 := hP.trans (and_congr Iff.rfl ⟨fun q e he => by obtain ⟨j, hj⟩ := gt_mem he; exact q j e (by have := gt_lt hj; omega) hj, fun q j e _ he => q e (List.mem_of_getElem? he)⟩)
    rw [tB_c e]
    exact k _
  obtain ⟨e, he⟩ := gt_ex z0
  obtain ⟨f1, Ye, -⟩ := HG i e he
  have hm := List.mem_of_getElem? he
  have nxt : ∀ q c, (q ↔ P ∧ ∃ r ∈ J, lNo r = lNo e.1) → c = tB q → rt_ X (d + 1) 167 75 [some (.ref 23), some (.int hw), some (.int cu), some (.ref sa), some (.int n), some (.ref ga), some (.int (tB P)), some (.int (nI i)), x8] [.int c] h Q := fun q c hq hc => by
    subst hc
    refine rt_k (k := 1) (pc' := 77) (L' := [some (.ref 23), some (.int hw), some (.int cu), some (.ref sa), some (.int n), some (.ref ga), some (.int (tB q)), some (.int (nI i)), x8]) (st' := []) (h' := h) (fun _ => by first | rfl | (cases x8 <;> rfl)) ?_
    refine rt_inc (c := 1) rfl rfl ?_
    refine rt_k (k := 1) (pc' := 40) (L' := [some (.ref 23), some (.int hw), some (.int cu), some (.ref sa), some (.int n), some (.ref ga), some (.int (tB q)), some (.int (nI (i + 1))), x8]) (st' := []) (h' := h) (fun _ => by first | rfl | (cases x8 <;> rfl)) ?_
    refine m_is1 c23 CI YG hb n x8 k (i + 1) z0 q (hq.trans ?_)
    rw [hP]
    constructor
    · rintro ⟨⟨a, b⟩, c⟩
      refine ⟨a, fun j e' hj he' => ?_⟩
      by_cases y : j = i
      · subst y; rw [he] at he'; cases he'; exact c
      · exact b j e' (by omega) he'
    · rintro ⟨a, b⟩
      exact ⟨⟨a, fun j e' hj he' => b j e' (by omega) he'⟩, b i e (Nat.lt_succ_self i) he⟩
  refine rt_k (k := 1) (pc' := 52) (L' := [some (.ref 23), some (.int hw), some (.int cu), some (.ref sa), some (.int n), some (.ref ga), some (.int (tB P)), some (.int (nI i)), x8]) (st' := [.int (tB P)]) (h' := h) (fun _ => by first | rfl | (cases x8 <;> rfl)) ?_
  refine rt_pe rfl (fun z1 => ?_) (fun z1 => ?_)
  ·
    refine rt_k (k := 1) (pc' := 75) (L' := [some (.ref 23), some (.int hw), some (.int cu), some (.ref sa), some (.int n), some (.ref ga), some (.int (tB P)), some (.int (nI i)), x8]) (st' := [.int (nI 0)]) (h' := h) (fun _ => by first | rfl | (cases x8 <;> rfl)) ?_
    exact nxt False _ ⟨fun q => absurd q id, fun q => absurd q.1 z1⟩ (tF0 id)
  refine rt_k (k := 2) (pc' := 58) (L' := [some (.ref 23), some (.int hw), some (.int cu), some (.ref sa), some (.int n), some (.ref ga), some (.int (tB P)), some (.int (nI i)), x8]) (st' := [.ref ga, .ref 23]) (h' := h) (fun _ => by first | rfl | (cases x8 <;> rfl)) ?_
  refine rt_gf rfl cg rfl rfl ?_
  refine rt_k (k := 1) (pc' := 63) (L' := [some (.ref 23), some (.int hw), some (.int cu), some (.ref sa), some (.int n), some (.ref ga), some (.int (tB P)), some (.int (nI i)), x8]) (st' := [.int (nI i), .ref rl, .ref 23]) (h' := h) (fun _ => by first | rfl | (cases x8 <;> rfl)) ?_
  refine rt_aalN rfl cl rfl (by omega) (by decide) f1 ?_
  refine rt_cvE rfl (by decide) c23 rfl rfl rfl rfl (m_inIndex (d := d) c23 CI Ye ⟨hb.1, hb.2 e hm⟩) ?_
  refine rt_pe rfl (fun z2 => ?_) (fun z2 => ?_)
  ·
    refine rt_k (k := 1) (pc' := 75) (L' := [some (.ref 23), some (.int hw), some (.int cu), some (.ref sa), some (.int n), some (.ref ga), some (.int (tB P)), some (.int (nI i)), x8]) (st' := [.int (nI 0)]) (h' := h) (fun _ => by first | rfl | (cases x8 <;> rfl)) ?_
    exact nxt False _ ⟨fun q => absurd q id, fun q => absurd q.2 z2⟩ (tF0 id)
  refine rt_k (k := 2) (pc' := 75) (L' := [some (.ref 23), some (.int hw), some (.int cu), some (.ref sa), some (.int n), some (.ref ga), some (.int (tB P)), some (.int (nI i)), x8]) (st' := [.int (nI 1)]) (h' := h) (fun _ => by first | rfl | (cases x8 <;> rfl)) ?_
  exact nxt True _ ⟨fun _ => ⟨z1, z2⟩, fun _ => trivial⟩ (tF1 trivial)
termination_by g.length - i
/-- where it stands among those before it -/
theorem m_is3 {h0 : List va_E} {A0 : Nat → Prop} {c0 s0 : Nat} {x6 : Int32} {n : Nat} {e : kL × Nat} {L : List kL} {SF : Nat → Option Nat} {w35 : va_E} (h39 : 39 ≤ h0.length) (hA : ∀ k, zz k → ¬ A0 k) (lsa : h0.length ≤ sa) (YG0 : yG h0 ad ga g) (he : g[n]? = some e) (hL : L.length = n) (hS : L.Pairwise (fun r s => nmI (lNm r) < nmI (lNm s))) (FL : fLs ad SF L) (YL : ∀ s ∈ L, yL h0 (ad (lNo s)) s ∧ smW (lNm s) ∧ ¬ nmI (lNm s) = nmI (lNm e.1)) (sm : smW (lNm e.1)) (k : ∀ (h' : List va_E) p, gr A0 c0 s0 h0 h' → h'[35]? = some w35 → p ≤ n → h'[sa]? = some (.inl (10, 8, .inr (.inr (.inr (.inr (shu SF p n)))))) → (∀ (j : Nat) s, j < p → L[j]? = some s → nmI (lNm s) < nmI (lNm e.1)) → (∀ (j : Nat) s, p ≤ j → L[j]? = some s → nmI (lNm e.1) < nmI (lNm s)) → rt_ X (d + 5) 167 185 [some (.ref 23), some (.int hw), some (.int cu), some (.ref sa), some (.int (nI g.length)), some (.ref ga), some (.int x6), some (.int (nI n)), some (.int (nI p))] [] h' Q) (i : Nat) (hi : i ≤ n) (h : List va_E) (G : gr A0 c0 s0 h0 h) (c35 : h[35]? = some w35) (cs : h[sa]? = some (.inl (10, 8, .inr (.inr (.inr (.inr (shu SF i n))))))) (H : ∀ (j : Nat) s, i ≤ j → L[j]? = some s → nmI (lNm e.1) < nmI (lNm s)) : rt_ X (d + 5) 167 138 [some (.ref 23), some (.int hw), some (.int cu), some (.ref sa), some (.int (nI g.length)), some (.ref ga), some (.int x6), some (.int (nI n)), some (.int (nI i))] [] h Q := by
  have E := gr_ex G hA
  obtain ⟨rl, ci, RF, CF, ⟨zg, cg0⟩, ⟨zl, cl0⟩, ⟨zc, cc0⟩, g8, HG⟩ := id YG0
  have lrl := hc_lt cl0
  have cg := gr_at G cg0 (hA _ zg)
  have cl := gr_at G cl0 (hA _ zl)
  obtain ⟨f1, Ye0, -⟩ := HG n e he
  have Ye := Ye0.ex E
  have ln := gt_lt he
  obtain ⟨nm1, ve1, nd1, nr1, bk1, br1, ow1, NF1, RF1, BF1, QF1, OF1, ⟨zr1, cr1⟩, ⟨-, cnd1⟩, ⟨-, cnr1⟩, ⟨-, cbk1⟩, ⟨-, cbr1⟩, ⟨-, cow1⟩, hln1, Sn1, Vn1, DN1, DB1, WO1⟩ := id (Ye)
  refine rt_k (k := 1) (pc' := 140) (L' := [some (.ref 23), some (.int hw), some (.int cu), some (.ref sa), some (.int (nI g.length)), some (.ref ga), some (.int x6), some (.int (nI n)), some (.int (nI i))]) (st' := [.int (nI i)]) (h' := h) (fun _ => rfl) ?_
  refine rt_zle rfl (by omega) (fun z0 => ?_) (fun z0 => ?_)
  ·
    have ei : i = 0 := by omega
    subst ei
    exact k h 0 G c35 (Nat.zero_le _) cs (fun j s hj => absurd hj (Nat.not_lt_zero _)) (fun j s _ hs => H j s (Nat.zero_le _) hs)
  obtain ⟨s, hs⟩ := gt_ex (show i - 1 < L.length by omega)
  have f2 := FL (i - 1) s hs
  obtain ⟨Ys0, ss, ns⟩ := YL s (List.mem_of_getElem? hs)
  have Ys := Ys0.ex E
  have f3 : shu SF i n (i - 1) = some (ad (lNo s)) := by unfold shu; rw [if_neg (by omega)]; exact f2
  obtain ⟨nm2, ve2, nd2, nr2, bk2, br2, ow2, NF2, RF2, BF2, QF2, OF2, ⟨zr2, cr2⟩, ⟨-, cnd2⟩, ⟨-, cnr2⟩, ⟨-, cbk2⟩, ⟨-, cbr2⟩, ⟨-, cow2⟩, hln2, Sn2, Vn2, DN2, DB2, WO2⟩ := id (Ys)
  refine rt_k (k := 3) (pc' := 147) (L' := [some (.ref 23), some (.int hw), some (.int cu), some (.ref sa), some (.int (nI g.length)), some (.ref ga), some (.int x6), some (.int (nI n)), some (.int (nI i))]) (st' := [.int (nI 1), .int (nI i), .ref sa]) (h' := h) (fun _ => rfl) ?_
  refine rt_sub rfl (by omega) ?_
  refine rt_aalN rfl cs rfl (by omega) (by decide) f3 ?_
  refine rt_gf rfl cr2 rfl rfl ?_
  refine rt_k (k := 1) (pc' := 154) (L' := [some (.ref 23), some (.int hw), some (.int cu), some (.ref sa), some (.int (nI g.length)), some (.ref ga), some (.int x6), some (.int (nI n)), some (.int (nI i))]) (st' := [.ref ga, .ref nm2]) (h' := h) (fun _ => rfl) ?_
  refine rt_gf rfl cg rfl rfl ?_
  refine rt_k (k := 1) (pc' := 159) (L' := [some (.ref 23), some (.int hw), some (.int cu), some (.ref sa), some (.int (nI g.length)), some (.ref ga), some (.int x6), some (.int (nI n)), some (.int (nI i))]) (st' := [.int (nI n), .ref rl, .ref nm2]) (h' := h) (fun _ => rfl) ?_
  refine rt_aalN rfl cl rfl (by omega) (by decide) f1 ?_
  refine rt_gf rfl cr1 rfl rfl ?_
  refine rt_cH rfl rfl (m_alphabet (d := d) Sn2 Sn1 ss sm) ?_
  rintro _ ⟨x0, rfl, sx⟩
  refine rt_qle rfl (fun z1 => ?_) (fun z1 => ?_)
  ·
    have lt : nmI (lNm s) < nmI (lNm e.1) := by
      rcases sx with ⟨y, _⟩ | ⟨y, _⟩ | ⟨_, y⟩
      · exact y
      · exact absurd y ns
      · exact absurd y (fun y => i32_le z1 y)
    refine k h i G c35 hi cs (fun j t hj ht => ?_) H
    by_cases q : j = i - 1
    · subst q; rw [hs] at ht; cases ht; exact lt
    · exact i64_tr (pw_lt hS (show j < i - 1 by omega) ht hs) lt
  have gt : nmI (lNm e.1) < nmI (lNm s) := by
    rcases sx with ⟨_, y⟩ | ⟨_, y⟩ | ⟨y, _⟩
    · exact absurd (i32_nle z1) (fun q => i32_as q y)
    · rw [y] at z1; exact absurd z1 (by decide)
    · exact y
  refine rt_k (k := 5) (pc' := 176) (L' := [some (.ref 23), some (.int hw), some (.int cu), some (.ref sa), some (.int (nI g.length)), some (.ref ga), some (.int x6), some (.int (nI n)), some (.int (nI i))]) (st' := [.int (nI 1), .int (nI i), .ref sa, .int (nI i), .ref sa]) (h' := h) (fun _ => rfl) ?_
  refine rt_sub rfl (by omega) ?_
  refine rt_aalN rfl cs rfl (by omega) (by decide) f3 ?_
  refine rt_aasN rfl cs cr2 ⟨rfl, rfl⟩ (by omega) (by decide) ?_
  refine rt_nm (fun h_1 e_2 => ?_)
  have f_3 : fr_ (fun z => z = sa) h h_1 := by rw [e_2]; exact fr_set (e' := .inl (10, 8, .inr (.inr (.inr (.inr (va_up (shu SF i n) i (some (ad (lNo s))))))))) cs (by rfl) (by first | decide | simp)
  have n_4 : h_1.length = h.length := by rw [e_2]; simp
  have c_5 : h_1[ga]? = some (.inr (13, [.ref rl, .ref ci, .int (nI g.length)])) := by rw [e_2]; exact hs_ne cg (hc_ne cs cg (by intro q; cases q))
  have c_6 : h_1[rl]? = some (.inl (10, 8, .inr (.inr (.inr (.inr RF))))) := by rw [e_2]; exact hs_ne cl (by omega)
  have c_7 : h_1[sa]? = some (.inl (10, 8, .inr (.inr (.inr (.inr (va_up (shu SF i n) i (some (ad (lNo s))))))))) := by rw [e_2]; exact hs_self cs
  have c_8 : h_1[ad (lNo s)]? = some (.inr (14, [.int (nI (lNo s)), .ref nm2, .ref ve2, .ref nd2, .ref nr2, .int (nI ((lNe s).length)), .ref bk2, .ref br2, .int (nI ((lBr s).length)), .ref ow2, .int (nI ((lOw s).length))])) := by rw [e_2]; exact hs_ne cr2 (hc_ne cs cr2 (by intro q; cases q))
  have c_9 : h_1[ad (lNo e.1)]? = some (.inr (14, [.int (nI (lNo e.1)), .ref nm1, .ref ve1, .ref nd1, .ref nr1, .int (nI ((lNe e.1).length)), .ref bk1, .ref br1, .int (nI ((lBr e.1).length)), .ref ow1, .int (nI ((lOw e.1).length))])) := by rw [e_2]; exact hs_ne cr1 (hc_ne cs cr1 (by intro q; cases q))
  refine rt_dec rfl (by omega) rfl ?_
  refine rt_k (k := 1) (pc' := 138) (L' := [some (.ref 23), some (.int hw), some (.int cu), some (.ref sa), some (.int (nI g.length)), some (.ref ga), some (.int x6), some (.int (nI n)), some (.int (nI (i - 1)))]) (st' := []) (h' := h_1) (fun _ => rfl) ?_
  have FF := f_3
  have k2 := c_7
  rw [← f2, shu_s SF (show 0 < i by omega) hi] at k2
  refine m_is3 h39 hA lsa YG0 he hL hS FL YL sm k (i - 1) (by omega) _ (gr_w2 G FF (fun k q => Or.inl (by omega))) (fr_at FF (by omega) c35) k2 (fun j t hj ht => ?_)
  by_cases q : j = i - 1
  · subst q; rw [hs] at ht; cases ht; exact gt
  · exact H j t (by omega) ht
termination_by i
/-- the set in the order of its names -/
theorem m_is4 {h0 : List va_E} {A0 : Nat → Prop} {c0 s0 : Nat} {x6 : Int32} {w35 : va_E} (h39 : 39 ≤ h0.length) (hA : ∀ k, zz k → ¬ A0 k) (lsa : h0.length ≤ sa) (YG0 : yG h0 ad ga g) (sm : ∀ e ∈ g, smW (lNm e.1)) (hds : ∀ (i j : Nat) e f, g[i]? = some e → g[j]? = some f → lNm e.1 = lNm f.1 → i = j) (k : ∀ (h' : List va_E) (SF : Nat → Option Nat) (L : List kL) y7 y8, gr A0 c0 s0 h0 h' → h'[35]? = some w35 → h'[sa]? = some (.inl (10, 8, .inr (.inr (.inr (.inr SF))))) → L.length = g.length → L.Pairwise (fun r s => nmI (lNm r) < nmI (lNm s)) → fLs ad SF L → (∀ r, r ∈ L ↔ r ∈ g.map Prod.fst) → rt_ X (d + 5) 167 253 [some (.ref 23), some (.int hw), some (.int cu), some (.ref sa), some (.int (nI g.length)), some (.ref ga), some (.int x6), y7, y8] [] h' Q) (n : Nat) (hn : n ≤ g.length) (h : List va_E) (G : gr A0 c0 s0 h0 h) (c35 : h[35]? = some w35) (SF : Nat → Option Nat) (cs : h[sa]? = some (.inl (10, 8, .inr (.inr (.inr (.inr SF)))))) (L : List kL) (hL : L.length = n) (hS : L.Pairwise (fun r s => nmI (lNm r) < nmI (lNm s))) (FL : fLs ad SF L) (HM : ∀ r, r ∈ L ↔ ∃ (j : Nat) (e : kL × Nat), j < n ∧ g[j]? = some e ∧ e.1 = r) (x8 : Option Value) : rt_ X (d + 5) 167 127 [some (.ref 23), some (.int hw), some (.int cu), some (.ref sa), some (.int (nI g.length)), some (.ref ga), some (.int x6), some (.int (nI n)), x8] [] h Q := by
  have g8 := YG0.choose_spec.choose_spec.choose_spec.choose_spec.2.2.2.1
  refine rt_k (k := 2) (pc' := 131) (L' := [some (.ref 23), some (.int hw), some (.int cu), some (.ref sa), some (.int (nI g.length)), some (.ref ga), some (.int x6), some (.int (nI n)), x8]) (st' := [.int (nI g.length), .int (nI n)]) (h' := h) (fun _ => by first | rfl | (cases x8 <;> rfl)) ?_
  refine rt_ige rfl (by omega) (by omega) (fun z0 => ?_) (fun z0 => ?_)
  ·
    refine rt_k (k := 1) (pc' := 253) (L' := [some (.ref 23), some (.int hw), some (.int cu), some (.ref sa), some (.int (nI g.length)), some (.ref ga), some (.int x6), some (.int (nI n)), x8]) (st' := []) (h' := h) (fun _ => by first | rfl | (cases x8 <;> rfl)) ?_
    have e : n = g.length := by omega
    refine k h SF L _ _ G c35 cs (by omega) hS FL (fun r => (HM r).trans ?_)
    rw [List.mem_map]
    exact ⟨fun ⟨j, e, _, a, b⟩ => ⟨e, List.mem_of_getElem? a, b⟩, fun ⟨e, a, b⟩ => by obtain ⟨j, hj⟩ := gt_mem a; exact ⟨j, e, by have := gt_lt hj; omega, hj, b⟩⟩
  obtain ⟨e, he⟩ := gt_ex z0
  have sme := sm e (List.mem_of_getElem? he)
  have YL : ∀ s ∈ L, yL h0 (ad (lNo s)) s ∧ smW (lNm s) ∧ ¬ nmI (lNm s) = nmI (lNm e.1) := fun s hs => by
    obtain ⟨j, f, hj, hf, ef⟩ := (HM s).mp hs
    obtain ⟨rl, ci, RF, CF, -, -, -, -, HG⟩ := id YG0
    have smf := sm f (List.mem_of_getElem? hf)
    rw [← ef]
    refine ⟨(HG j f hf).2.1, smf, fun q => ?_⟩
    have := hds j n f e hf he (nmI_inj smf sme q)
    omega
  refine rt_k (k := 2) (pc' := 138) (L' := [some (.ref 23), some (.int hw), some (.int cu), some (.ref sa), some (.int (nI g.length)), some (.ref ga), some (.int x6), some (.int (nI n)), some (.int (nI n))]) (st' := []) (h' := h) (fun _ => by first | rfl | (cases x8 <;> rfl)) ?_
  have cs' := cs
  rw [← shu_0 SF n] at cs'
  refine m_is3 h39 hA lsa YG0 he hL hS FL YL sme (fun h1 p G1 d35 hp c1 b1 b2 => ?_) n (Nat.le_refl _) h G c35 cs' (fun j s hj hs => by have := gt_lt hs; omega)
  have E := gr_ex G1 hA
  obtain ⟨rl, ci, RF, CF, ⟨zg, cg0⟩, ⟨zl, cl0⟩, ⟨zc, cc0⟩, -, HG⟩ := id YG0
  have lrl := hc_lt cl0
  have cg := gr_at G1 cg0 (hA _ zg)
  have cl := gr_at G1 cl0 (hA _ zl)
  obtain ⟨f1, Ye0, -⟩ := HG n e he
  have Ye := Ye0.ex E
  obtain ⟨nm9, ve9, nd9, nr9, bk9, br9, ow9, NF9, RF9, BF9, QF9, OF9, ⟨zr9, cr9⟩, ⟨-, cnd9⟩, ⟨-, cnr9⟩, ⟨-, cbk9⟩, ⟨-, cbr9⟩, ⟨-, cow9⟩, hln9, Sn9, Vn9, DN9, DB9, WO9⟩ := id (Ye)
  refine rt_k (k := 3) (pc' := 190) (L' := [some (.ref 23), some (.int hw), some (.int cu), some (.ref sa), some (.int (nI g.length)), some (.ref ga), some (.int x6), some (.int (nI n)), some (.int (nI p))]) (st' := [.ref ga, .int (nI p), .ref sa]) (h' := h1) (fun _ => rfl) ?_
  refine rt_gf rfl cg rfl rfl ?_
  refine rt_k (k := 1) (pc' := 195) (L' := [some (.ref 23), some (.int hw), some (.int cu), some (.ref sa), some (.int (nI g.length)), some (.ref ga), some (.int x6), some (.int (nI n)), some (.int (nI p))]) (st' := [.int (nI n), .ref rl, .int (nI p), .ref sa]) (h' := h1) (fun _ => rfl) ?_
  refine rt_aalN rfl cl rfl (by omega) (by decide) f1 ?_
  refine rt_aasN rfl c1 cr9 ⟨rfl, rfl⟩ (by omega) (by decide) ?_
  refine rt_nm (fun h_10 e_11 => ?_)
  have f_12 : fr_ (fun z => z = sa) h1 h_10 := by rw [e_11]; exact fr_set (e' := .inl (10, 8, .inr (.inr (.inr (.inr (va_up (shu SF p n) p (some (ad (lNo e.1))))))))) c1 (by rfl) (by first | decide | simp)
  have n_13 : h_10.length = h1.length := by rw [e_11]; simp
  have c_14 : h_10[ga]? = some (.inr (13, [.ref rl, .ref ci, .int (nI g.length)])) := by rw [e_11]; exact hs_ne cg (hc_ne c1 cg (by intro q; cases q))
  have c_15 : h_10[rl]? = some (.inl (10, 8, .inr (.inr (.inr (.inr RF))))) := by rw [e_11]; exact hs_ne cl (by omega)
  have c_16 : h_10[sa]? = some (.inl (10, 8, .inr (.inr (.inr (.inr (va_up (shu SF p n) p (some (ad (lNo e.1))))))))) := by rw [e_11]; exact hs_self c1
  have c_17 : h_10[ad (lNo e.1)]? = some (.inr (14, [.int (nI (lNo e.1)), .ref nm9, .ref ve9, .ref nd9, .ref nr9, .int (nI ((lNe e.1).length)), .ref bk9, .ref br9, .int (nI ((lBr e.1).length)), .ref ow9, .int (nI ((lOw e.1).length))])) := by rw [e_11]; exact hs_ne cr9 (hc_ne c1 cr9 (by intro q; cases q))
  refine rt_inc (c := 1) rfl rfl ?_
  refine rt_k (k := 1) (pc' := 127) (L' := [some (.ref 23), some (.int hw), some (.int cu), some (.ref sa), some (.int (nI g.length)), some (.ref ga), some (.int x6), some (.int (nI (n + 1))), some (.int (nI p))]) (st' := []) (h' := h_10) (fun _ => rfl) ?_
  have FF := f_12
  have k2 := c_16
  rw [← hL] at k2
  have hp' : p ≤ L.length := by omega
  refine m_is4 h39 hA lsa YG0 sm hds k (n + 1) z0 _ (gr_w2 G1 FF (fun k q => Or.inl (by omega))) (fr_at FF (by omega) d35) _ k2 (L.take p ++ e.1 :: L.drop p) (by rw [List.length_append, List.length_cons, List.length_take, List.length_drop]; omega) ?_ (fLs_i FL hp') (fun r => ?_) _
  · have h0' := hS
    rw [← List.take_append_drop p L, List.pairwise_append] at h0'
    rw [List.pairwise_append, List.pairwise_cons]
    have bef : ∀ s ∈ L.take p, nmI (lNm s) < nmI (lNm e.1) := fun s hs => by
      obtain ⟨j, hj⟩ := gt_mem hs
      have hjp : j < p := by have := gt_lt hj; rw [List.length_take] at this; omega
      rw [List.getElem?_take, if_pos hjp] at hj
      exact b1 j s hjp hj
    refine ⟨h0'.1, ⟨fun s hs => ?_, h0'.2.1⟩, fun s hs t ht => ?_⟩
    · obtain ⟨j, hj⟩ := gt_mem hs
      rw [List.getElem?_drop] at hj
      exact b2 (p + j) s (by omega) hj
    · rcases List.mem_cons.mp ht with q | q
      · subst q; exact bef s hs
      · exact h0'.2.2 s hs t q
  · have mm : r ∈ L.take p ++ e.1 :: L.drop p ↔ r = e.1 ∨ r ∈ L := by
      have : r ∈ L ↔ r ∈ L.take p ∨ r ∈ L.drop p := by rw [← List.mem_append, List.take_append_drop]
      rw [List.mem_append, List.mem_cons, this]
      constructor
      · rintro (a | a | a)
        · exact Or.inr (Or.inl a)
        · exact Or.inl a
        · exact Or.inr (Or.inr a)
      · rintro (a | a | a)
        · exact Or.inr (Or.inl a)
        · exact Or.inl a
        · exact Or.inr (Or.inr a)
    rw [mm, HM]
    constructor
    · rintro (q | ⟨j, f, a, b, c⟩)
      · exact ⟨n, e, Nat.lt_succ_self n, he, q.symm⟩
      · exact ⟨j, f, by omega, b, c⟩
    · rintro ⟨j, f, a, b, c⟩
      by_cases q : j = n
      · subst q; rw [he] at b; cases b; exact Or.inl c.symm
      · exact Or.inr ⟨j, f, by omega, b, c⟩
termination_by g.length - n
/-- the best set is taken over -/
theorem m_is5 {h0 : List va_E} {A0 : Nat → Prop} {c0 s0 : Nat} {x6 : Int32} {B : List kL} {BF : Nat → Option Nat} (hA : ∀ k, zz k → ¬ A0 k) (l39 : 39 ≤ h0.length) (lsa : h0.length ≤ sa) (l8 : B.length ≤ 8) (Y : yLs h0 ad BF B) (k : ∀ (h' : List va_E) (SF : Nat → Option Nat) y7, fr_ (fun z => z = sa) h h' → h'[sa]? = some (.inl (10, 8, .inr (.inr (.inr (.inr SF))))) → fLs ad SF B → rt_ X (d + 5) 167 253 [some (.ref 23), some (.int hw), some (.int cu), some (.ref sa), some (.int (nI B.length)), some (.ref ga), some (.int x6), y7, none] [] h' Q) (i : Nat) (hi : i ≤ B.length) (h1 : List va_E) (FR : fr_ (fun z => z = sa) h h1) (G : gr A0 c0 s0 h0 h1) (c23 : h1[23]? = some (mo (nI T.length) nw pa (mq (nI J.length) (nI nx) (nI D.length) (nI K.length) (nI made) (nI st.length) nc bc kn))) (c34 : h1[34]? = some (.inl (10, 8, .inr (.inr (.inr (.inr BF)))))) (SF : Nat → Option Nat) (cs : h1[sa]? = some (.inl (10, 8, .inr (.inr (.inr (.inr SF)))))) (H : ∀ (j : Nat) s, j < i → B[j]? = some s → SF j = some (ad (lNo s))) : rt_ X (d + 5) 167 229 [some (.ref 23), some (.int hw), some (.int cu), some (.ref sa), some (.int (nI B.length)), some (.ref ga), some (.int x6), some (.int (nI i)), none] [] h1 Q := by
  refine rt_k (k := 2) (pc' := 233) (L' := [some (.ref 23), some (.int hw), some (.int cu), some (.ref sa), some (.int (nI B.length)), some (.ref ga), some (.int x6), some (.int (nI i)), none]) (st' := [.int (nI B.length), .int (nI i)]) (h' := h1) (fun _ => rfl) ?_
  refine rt_ige rfl (by omega) (by omega) (fun z0 => ?_) (fun z0 => ?_)
  ·
    exact k h1 SF _ FR cs (fun j s hs => H j s (by have := gt_lt hs; omega) hs)
  obtain ⟨r, hr⟩ := gt_ex z0
  obtain ⟨f1, Yr0⟩ := Y i r hr
  have Yr := Yr0.ex (gr_ex G hA)
  obtain ⟨nm9, ve9, nd9, nr9, bk9, br9, ow9, NF9, RF9, BF9, QF9, OF9, ⟨zr9, cr9⟩, ⟨-, cnd9⟩, ⟨-, cnr9⟩, ⟨-, cbk9⟩, ⟨-, cbr9⟩, ⟨-, cow9⟩, hln9, Sn9, Vn9, DN9, DB9, WO9⟩ := id (Yr)
  refine rt_k (k := 3) (pc' := 240) (L' := [some (.ref 23), some (.int hw), some (.int cu), some (.ref sa), some (.int (nI B.length)), some (.ref ga), some (.int x6), some (.int (nI i)), none]) (st' := [.ref 23, .int (nI i), .ref sa]) (h' := h1) (fun _ => rfl) ?_
  refine rt_gf rfl c23 rfl rfl ?_
  refine rt_k (k := 1) (pc' := 245) (L' := [some (.ref 23), some (.int hw), some (.int cu), some (.ref sa), some (.int (nI B.length)), some (.ref ga), some (.int x6), some (.int (nI i)), none]) (st' := [.int (nI i), .ref 34, .int (nI i), .ref sa]) (h' := h1) (fun _ => rfl) ?_
  refine rt_aalN rfl c34 rfl (by omega) (by decide) f1 ?_
  refine rt_aasN rfl cs cr9 ⟨rfl, rfl⟩ (by omega) (by decide) ?_
  refine rt_nm (fun h_18 e_19 => ?_)
  have f_20 : fr_ (fun z => z = sa) h1 h_18 := by rw [e_19]; exact fr_set (e' := .inl (10, 8, .inr (.inr (.inr (.inr (va_up SF i (some (ad (lNo r))))))))) cs (by rfl) (by first | decide | simp)
  have n_21 : h_18.length = h1.length := by rw [e_19]; simp
  have c_22 : h_18[23]? = some (.inr (12, [.ref 24, .int (nI T.length), .ref 25, .int nw, .int pa, .ref 26, .int (nI J.length), .int (nI nx), .ref 27, .ref 28, .int (nI D.length), .ref 29, .int (nI K.length), .int (nI made), .ref 30, .ref 31, .int (nI st.length), .ref 32, .int nc, .ref 33, .ref 34, .int bc, .int kn, .ref 35])) := by rw [e_19]; exact hs_ne c23 (hc_ne cs c23 (by intro q; cases q))
  have c_23 : h_18[34]? = some (.inl (10, 8, .inr (.inr (.inr (.inr BF))))) := by rw [e_19]; exact hs_ne c34 (by omega)
  have c_24 : h_18[sa]? = some (.inl (10, 8, .inr (.inr (.inr (.inr (va_up SF i (some (ad (lNo r))))))))) := by rw [e_19]; exact hs_self cs
  have c_25 : h_18[ad (lNo r)]? = some (.inr (14, [.int (nI (lNo r)), .ref nm9, .ref ve9, .ref nd9, .ref nr9, .int (nI ((lNe r).length)), .ref bk9, .ref br9, .int (nI ((lBr r).length)), .ref ow9, .int (nI ((lOw r).length))])) := by rw [e_19]; exact hs_ne cr9 (hc_ne cs cr9 (by intro q; cases q))
  refine rt_inc (c := 1) rfl rfl ?_
  refine rt_k (k := 1) (pc' := 229) (L' := [some (.ref 23), some (.int hw), some (.int cu), some (.ref sa), some (.int (nI B.length)), some (.ref ga), some (.int x6), some (.int (nI (i + 1))), none]) (st' := []) (h' := h_18) (fun _ => rfl) ?_
  have FF := f_20
  refine m_is5 hA l39 lsa l8 Y k (i + 1) z0 _ (fr_tr FR FF) (gr_w2 G FF (fun k q => Or.inl (by omega))) c_22 c_23 _ c_24 (fun j s hj hs => ?_)
  unfold va_up
  by_cases q : j = i
  · subst q; rw [hr] at hs; cases hs; rw [if_pos rfl]
  · rw [if_neg q]; exact H j s (by omega) hs
termination_by B.length - i
/-- the new generation is kept -/
theorem m_is9 {n gb : Nat} {x5 : Value} {x6 : Int32} {x8 : Option Value} {K1 : List kG} {t : kG} {KF : Nat → Option Nat} (hK1 : K1.length ≤ 3) (hn : n < 2147483648) (c23 : h[23]? = some (mo (nI T.length) nw pa (mq (nI J.length) (nI nx) (nI D.length) (nI K1.length) (nI made) (nI st.length) nc bc kn))) (c29 : h[29]? = some (.inl (12, 4, .inr (.inr (.inr (.inr KF)))))) (HK : ∀ (i : Nat) g, K1[i]? = some g → ∃ a, KF i = some a ∧ yG h ad a g) (YB : yG h ad gb t) : rt_ X d 167 338 [some (.ref 23), some (.int hw), some (.int cu), some (.ref sa), some (.int (nI n)), some x5, some (.int x6), some (.ref gb), x8] [] h (fun v h' => v = some (.int (nI n)) ∧ fr_ (fun z => z = 23 ∨ z = 29) h h' ∧ h'[23]? = some (mo (nI T.length) nw pa (mq (nI J.length) (nI nx) (nI D.length) (nI (K1 ++ [t]).length) (nI (made + 1)) (nI st.length) nc bc kn)) ∧ mKs h' ad (K1 ++ [t])) := by
  obtain ⟨rl, ci, RF, CF, ⟨-, cg⟩, -⟩ := id YB
  refine rt_k (k := 1) (pc' := 339) (L' := [some (.ref 23), some (.int hw), some (.int cu), some (.ref sa), some (.int (nI n)), some (x5), some (.int x6), some (.ref gb), x8]) (st' := [.ref 23]) (h' := h) (fun _ => by first | rfl | (cases x8 <;> rfl)) ?_
  refine rt_gf rfl c23 rfl rfl ?_
  refine rt_k (k := 1) (pc' := 343) (L' := [some (.ref 23), some (.int hw), some (.int cu), some (.ref sa), some (.int (nI n)), some (x5), some (.int x6), some (.ref gb), x8]) (st' := [.ref 23, .ref 29]) (h' := h) (fun _ => by first | rfl | (cases x8 <;> rfl)) ?_
  refine rt_gf rfl c23 rfl rfl ?_
  refine rt_k (k := 1) (pc' := 348) (L' := [some (.ref 23), some (.int hw), some (.int cu), some (.ref sa), some (.int (nI n)), some (x5), some (.int x6), some (.ref gb), x8]) (st' := [.ref gb, .int (nI K1.length), .ref 29]) (h' := h) (fun _ => by first | rfl | (cases x8 <;> rfl)) ?_
  refine rt_aasN rfl c29 cg ⟨rfl, rfl⟩ (by omega) (by decide) ?_
  refine rt_nm (fun h_26 e_27 => ?_)
  have f_28 : fr_ (fun z => z = 23 ∨ z = 29) h h_26 := by rw [e_27]; exact fr_set (e' := .inl (12, 4, .inr (.inr (.inr (.inr (va_up KF K1.length (some gb))))))) c29 (by rfl) (by first | decide | simp)
  have n_29 : h_26.length = h.length := by rw [e_27]; simp
  have c_30 : h_26[23]? = some (.inr (12, [.ref 24, .int (nI T.length), .ref 25, .int nw, .int pa, .ref 26, .int (nI J.length), .int (nI nx), .ref 27, .ref 28, .int (nI D.length), .ref 29, .int (nI K1.length), .int (nI made), .ref 30, .ref 31, .int (nI st.length), .ref 32, .int nc, .ref 33, .ref 34, .int bc, .int kn, .ref 35])) := by rw [e_27]; exact hs_ne c23 (by decide)
  have c_31 : h_26[29]? = some (.inl (12, 4, .inr (.inr (.inr (.inr (va_up KF K1.length (some gb))))))) := by rw [e_27]; exact hs_self c29
  have c_32 : h_26[gb]? = some (.inr (13, [.ref rl, .ref ci, .int (nI t.length)])) := by rw [e_27]; exact hs_ne cg (hc_ne c29 cg (by intro q; cases q))
  refine rt_k (k := 2) (pc' := 351) (L' := [some (.ref 23), some (.int hw), some (.int cu), some (.ref sa), some (.int (nI n)), some (x5), some (.int x6), some (.ref gb), x8]) (st' := [.ref 23, .ref 23]) (h' := h_26) (fun _ => by first | rfl | (cases x8 <;> rfl)) ?_
  refine rt_gf rfl c_30 rfl rfl ?_
  refine rt_k (k := 1) (pc' := 355) (L' := [some (.ref 23), some (.int hw), some (.int cu), some (.ref sa), some (.int (nI n)), some (x5), some (.int x6), some (.ref gb), x8]) (st' := [.int (nI 1), .int (nI K1.length), .ref 23]) (h' := h_26) (fun _ => by first | rfl | (cases x8 <;> rfl)) ?_
  refine rt_add rfl ?_
  refine rt_pf rfl c_30 ⟨rfl, (show 12 < 24 by decide), rfl⟩ ?_
  refine rt_nm (fun h_33 e_34 => ?_)
  have f_35 : fr_ (fun z => z = 23 ∨ z = 29) h h_33 := by rw [e_34]; exact fr_tr f_28 (fr_set (e' := .inr (12, [.ref 24, .int (nI T.length), .ref 25, .int nw, .int pa, .ref 26, .int (nI J.length), .int (nI nx), .ref 27, .ref 28, .int (nI D.length), .ref 29, .int (nI (K1.length + 1)), .int (nI made), .ref 30, .ref 31, .int (nI st.length), .ref 32, .int nc, .ref 33, .ref 34, .int bc, .int kn, .ref 35])) c_30 (by rfl) (by first | decide | simp))
  have n_36 : h_33.length = h_26.length := by rw [e_34]; simp
  have c_37 : h_33[23]? = some (.inr (12, [.ref 24, .int (nI T.length), .ref 25, .int nw, .int pa, .ref 26, .int (nI J.length), .int (nI nx), .ref 27, .ref 28, .int (nI D.length), .ref 29, .int (nI (K1.length + 1)), .int (nI made), .ref 30, .ref 31, .int (nI st.length), .ref 32, .int nc, .ref 33, .ref 34, .int bc, .int kn, .ref 35])) := by rw [e_34]; exact hs_self c_30
  have c_38 : h_33[29]? = some (.inl (12, 4, .inr (.inr (.inr (.inr (va_up KF K1.length (some gb))))))) := by rw [e_34]; exact hs_ne c_31 (by decide)
  have c_39 : h_33[gb]? = some (.inr (13, [.ref rl, .ref ci, .int (nI t.length)])) := by rw [e_34]; exact hs_ne c_32 (hc_ne c_30 c_32 (by intro q; cases q))
  refine rt_k (k := 2) (pc' := 361) (L' := [some (.ref 23), some (.int hw), some (.int cu), some (.ref sa), some (.int (nI n)), some (x5), some (.int x6), some (.ref gb), x8]) (st' := [.ref 23, .ref 23]) (h' := h_33) (fun _ => by first | rfl | (cases x8 <;> rfl)) ?_
  refine rt_gf rfl c_37 rfl rfl ?_
  refine rt_k (k := 1) (pc' := 365) (L' := [some (.ref 23), some (.int hw), some (.int cu), some (.ref sa), some (.int (nI n)), some (x5), some (.int x6), some (.ref gb), x8]) (st' := [.int (nI 1), .int (nI made), .ref 23]) (h' := h_33) (fun _ => by first | rfl | (cases x8 <;> rfl)) ?_
  refine rt_add rfl ?_
  refine rt_pf rfl c_37 ⟨rfl, (show 13 < 24 by decide), rfl⟩ ?_
  refine rt_nm (fun h_40 e_41 => ?_)
  have f_42 : fr_ (fun z => z = 23 ∨ z = 29) h h_40 := by rw [e_41]; exact fr_tr f_35 (fr_set (e' := .inr (12, [.ref 24, .int (nI T.length), .ref 25, .int nw, .int pa, .ref 26, .int (nI J.length), .int (nI nx), .ref 27, .ref 28, .int (nI D.length), .ref 29, .int (nI (K1.length + 1)), .int (nI (made + 1)), .ref 30, .ref 31, .int (nI st.length), .ref 32, .int nc, .ref 33, .ref 34, .int bc, .int kn, .ref 35])) c_37 (by rfl) (by first | decide | simp))
  have n_43 : h_40.length = h_33.length := by rw [e_41]; simp
  have c_44 : h_40[23]? = some (.inr (12, [.ref 24, .int (nI T.length), .ref 25, .int nw, .int pa, .ref 26, .int (nI J.length), .int (nI nx), .ref 27, .ref 28, .int (nI D.length), .ref 29, .int (nI (K1.length + 1)), .int (nI (made + 1)), .ref 30, .ref 31, .int (nI st.length), .ref 32, .int nc, .ref 33, .ref 34, .int bc, .int kn, .ref 35])) := by rw [e_41]; exact hs_self c_37
  have c_45 : h_40[29]? = some (.inl (12, 4, .inr (.inr (.inr (.inr (va_up KF K1.length (some gb))))))) := by rw [e_41]; exact hs_ne c_38 (by decide)
  have c_46 : h_40[gb]? = some (.inr (13, [.ref rl, .ref ci, .int (nI t.length)])) := by rw [e_41]; exact hs_ne c_39 (hc_ne c_37 c_39 (by intro q; cases q))
  refine rt_k (k := 1) (pc' := 371) (L' := [some (.ref 23), some (.int hw), some (.int cu), some (.ref sa), some (.int (nI n)), some (x5), some (.int x6), some (.ref gb), x8]) (st' := [.int (nI n)]) (h' := h_40) (fun _ => by first | rfl | (cases x8 <;> rfl)) ?_
  have FF := f_42
  have E := fr_ex FF (fun k q => by unfold zz at q; omega)
  have k3 := c_44
  have k9 := c_45
  have el : (K1 ++ [t]).length = K1.length + 1 := by rw [List.length_append]; rfl
  rw [← el] at k3
  have MK : mKs h_40 ad (K1 ++ [t]) := ⟨_, k9, by omega, by omega, fun i x hx => by
    unfold va_up
    by_cases q : i < K1.length
    · rw [List.getElem?_append_left q] at hx
      obtain ⟨a, a1, a2⟩ := HK i x hx
      exact ⟨a, by rw [if_neg (by omega)]; exact a1, a2.ex E⟩
    · have := gt_lt hx
      have : i = K1.length := by omega
      subst this
      rw [List.getElem?_append_right (Nat.le_refl _), Nat.sub_self] at hx
      cases hx
      exact ⟨gb, by rw [if_pos rfl], YB.ex E⟩⟩
  exact rt_r (v := some (.int (nI n))) rfl rfl (⟨rfl, FF, k3, MK⟩)
end NM

