/-! THE REFERENCE, 38: install, the whole. -/
section NN
variable {X : Nat × (Nat → Int32)} {d : Nat} {h : List va_E} {Q : Option Value → List va_E → Prop} {ad : Nat → Nat} {T : List Nat} {J : List kL} {nx : Nat} {D : kD} {K : List kG} {made : Nat} {st : kS}
variable {hw cu : Int32} {g : kG} {sa ga : Nat}
theorem m_is8 {h0 : List va_E} {S : List kL} {SF : Nat → Option Nat} {x6 : Int32} {y7 y8 : Option Value} (M : mKp h ad T J nx D K made st) (G : gr mB 1 8 h0 h) (hg : K[K.length - 1]? = some g) (YG : yG h ad ga g) (CSS : yS h ad sa SF S) (zsa : 39 ≤ sa) (hSs : S.Pairwise (fun r s => nmI (lNm r) < nmI (lNm s))) (okS : ∀ r ∈ S, okQ r ∧ lNo r < 2147483648) (hbg : bG g) (CH : (styR J D g hw ∧ (∀ r, r ∈ S ↔ r ∈ g.map Prod.fst) ∧ S.length = g.length ∧ S.Pairwise (fun r s => nmI (lNm r) < nmI (lNm s))) ∨ (¬ styR J D g hw ∧ fnd J D (some S))) : rt_ X (d + 5) 167 253 [some (.ref 23), some (.int hw), some (.int cu), some (.ref sa), some (.int (nI S.length)), some (.ref ga), some (.int x6), y7, y8] [] h (fun v h' => gr mB 6 99 h0 h' ∧ ∃ K' made' st', mKp h' ad T J nx D K' made' st' ∧ inR J D K made st g hw cu v K' made' st') := by
  obtain ⟨l39, ⟨nw, pa, nc, bc, kn, c23, CA⟩, ⟨⟨tg, t1, t2⟩, t3, t4⟩, W, CI, CD, CK, CS⟩ := id M
  have G0 : gr mB 6 99 h0 h := gr_mo G (fun _ q => q) (by omega) (by omega)
  have s8 := CSS.2.1
  refine rt_k (k := 2) (pc' := 256) (L' := [some (.ref 23), some (.int hw), some (.int cu), some (.ref sa), some (.int (nI S.length)), some (.ref ga), some (.int x6), y7, y8]) (st' := [.int (nI S.length), .ref sa]) (h' := h) (fun _ => by first | rfl | (cases y7 <;> rfl) | (cases y8 <;> rfl) | (cases y7 <;> cases y8 <;> rfl)) ?_
  refine rt_cE rfl rfl (m_clash (d := d + 2) CSS) ?_
  refine rt_pe rfl (fun z0 => ?_) (fun z0 => ?_)
  rotate_left
  ·
    refine rt_k (k := 1) (pc' := 264) (L' := [some (.ref 23), some (.int hw), some (.int cu), some (.ref sa), some (.int (nI S.length)), some (.ref ga), some (.int x6), y7, y8]) (st' := [.int (-7)]) (h' := h) (fun _ => by first | rfl | (cases y7 <;> rfl) | (cases y8 <;> rfl) | (cases y7 <;> cases y8 <;> rfl)) ?_
    exact rt_r (v := some (.int (-7))) rfl rfl (⟨G0, K, made, st, M, Or.inr ⟨S, CH, Or.inl ⟨z0, rfl, rfl, rfl, rfl⟩⟩⟩)
  refine rt_k (k := 1) (pc' := 266) (L' := [some (.ref 23), some (.int hw), some (.int cu), some (.ref sa), some (.int (nI S.length)), some (.ref ga), some (.int x6), y7, y8]) (st' := [.int cu]) (h' := h) (fun _ => by first | rfl | (cases y7 <;> rfl) | (cases y8 <;> rfl) | (cases y7 <;> cases y8 <;> rfl)) ?_
  refine rt_qlt rfl (fun z1 => ?_) (fun z1 => ?_)
  rotate_left
  ·
    refine rt_k (k := 1) (pc' := 271) (L' := [some (.ref 23), some (.int hw), some (.int cu), some (.ref sa), some (.int (nI S.length)), some (.ref ga), some (.int x6), y7, y8]) (st' := [.int (-5)]) (h' := h) (fun _ => by first | rfl | (cases y7 <;> rfl) | (cases y8 <;> rfl) | (cases y7 <;> cases y8 <;> rfl)) ?_
    exact rt_r (v := some (.int (-5))) rfl rfl (⟨G0, K, made, st, M, Or.inr ⟨S, CH, Or.inr (Or.inl ⟨z0, z1, rfl, rfl, rfl, rfl⟩)⟩⟩)
  refine rt_k (k := 3) (pc' := 276) (L' := [some (.ref 23), some (.int hw), some (.int cu), some (.ref sa), some (.int (nI S.length)), some (.ref ga), some (.int x6), y7, y8]) (st' := [.int (nI S.length), .ref sa, .ref 23]) (h' := h) (fun _ => by first | rfl | (cases y7 <;> rfl) | (cases y8 <;> rfl) | (cases y7 <;> cases y8 <;> rfl)) ?_
  refine rt_cv rfl (by decide) c23 rfl rfl rfl rfl (m_arranged (d := d + 1) l39 CSS (fun r hr => (okS r hr).1)) ?_
  rintro _ h1 ⟨G1, gb, rfl, YB⟩
  have E1 := gr_ex G1 (fun _ _ => id)
  have d23 := gr_at G1 c23 id
  have bgb : bG (arr S) := fun e he => (okS e.1 (((arr_nd (nmP_nd hSs)).2 e.1).mp (List.mem_map.mpr ⟨e, he, rfl⟩))).2
  refine rt_k (k := 4) (pc' := 286) (L' := [some (.ref 23), some (.int hw), some (.int cu), some (.ref sa), some (.int (nI S.length)), some (.ref ga), some (.int x6), some (.ref gb), y8]) (st' := [.ref gb, .ref ga, .ref 23]) (h' := h1) (fun _ => by first | rfl | (cases y7 <;> rfl) | (cases y8 <;> rfl) | (cases y7 <;> cases y8 <;> rfl)) ?_
  refine rt_cv rfl (by decide) d23 rfl rfl rfl rfl (m_walk (d := d + 3) hbg bgb (YG.ex E1) YB d23 (CS.ex E1 (G1.2.2.2 30 (by omega) id) (G1.2.2.2 31 (by omega) id))) ?_
  rintro _ h2 ⟨rfl, F2, e23, MS⟩
  have E2 := fr_ex F2 wS_zz
  have CK2 : mKs h2 ad K := (CK.ex E1 (G1.2.2.2 29 (by omega) id)).ex E2 (F2.2.2 29 (by decide))
  obtain ⟨KF, c29, k1, k4, HK⟩ := id CK2
  have YB2 := YB.ex E2
  have l1 := G1.1
  -- the end
  have fin : ∀ (K1 : List kG) (KF1 : Nat → Option Nat) (h3 : List va_E) (z8 : Option Value), K1.length ≤ 3 → K1 = (if K.length = 4 then K.drop 1 else K) → fr_ (fun z => z = 23 ∨ z = 29) h2 h3 → h3[23]? = some (mo (nI T.length) nw pa (mq (nI J.length) (nI nx) (nI D.length) (nI K1.length) (nI made) (nI (wkS g (arr S)).length) nc bc kn)) → h3[29]? = some (.inl (12, 4, .inr (.inr (.inr (.inr KF1))))) → (∀ (i : Nat) x, K1[i]? = some x → ∃ a, KF1 i = some a ∧ yG h3 ad a x) → rt_ X (d + 5) 167 338 [some (.ref 23), some (.int hw), some (.int cu), some (.ref sa), some (.int (nI S.length)), some (.ref ga), some (.int x6), some (.ref gb), z8] [] h3 (fun v h' => gr mB 6 99 h0 h' ∧ ∃ K' made' st', mKp h' ad T J nx D K' made' st' ∧ inR J D K made st g hw cu v K' made' st') := fun K1 KF1 h3 z8 q1 q2 F3 f23 f29 HK1 => by
    have E3 := fr_ex F3 (fun k q => by unfold zz at q; omega)
    refine rt_w (m_is9 (st := wkS g (arr S)) q1 (by omega) f23 f29 HK1 (YB2.ex E3)) ?_
    rintro v h4 ⟨rfl, F4, g23, MK⟩
    have EK : kPut K (arr S) = K1 ++ [arr S] := by unfold kPut; rw [q2]
    have F5 : fr_ (fun z => wS z ∨ z = 29) h1 h4 := fr_tr (fr_mo F2 (fun k q => Or.inl q)) (fr_tr (fr_mo F3 (fun k q => by unfold wS; omega)) (fr_mo F4 (fun k q => by unfold wS; omega)))
    have GA : gr (fun z => wS z ∨ z = 29) 5 91 h h4 := gr_w2 (gr_mo G1 (fun _ q => absurd q id) (Nat.le_refl _) (Nat.le_refl _)) F5 (fun k q => Or.inr q)
    have EA := gr_ex GA (fun k q y => by unfold zz at q; unfold wS at y; omega)
    have e : ∀ k, k < 39 → ¬ (wS k ∨ k = 29) → h4[k]? = h[k]? := fun k hk hn => GA.2.2.2 k (by omega) hn
    have GB : gr mB 6 99 h0 h4 := gr_mo (gr_tr G (gr_mo GA (fun k q => by unfold wS at q; unfold mB; omega) (Nat.le_refl _) (Nat.le_refl _))) (fun _ q => q) (by omega) (by omega)
    have MS4 : mSt h4 ad (wkS g (arr S)) := (MS.ex E3 (F3.2.2 30 (by decide)) (F3.2.2 31 (by decide))).ex (fr_ex F4 (fun k q => by unfold zz at q; omega)) (F4.2.2 30 (by decide)) (F4.2.2 31 (by decide))
    exact ⟨GB, K1 ++ [arr S], made + 1, wkS g (arr S), ⟨Nat.le_trans l39 GA.1, ⟨nw, pa, nc, bc, kn, g23, CA.ex EA (fun k h1 h2 => e k (by omega) (by unfold wS; omega))⟩, ⟨⟨tg, (e 24 (by omega) (by decide)).trans t1, t2⟩, t3, t4⟩, W.ex EA (e 25 (by omega) (by decide)), CI.ex EA (e 26 (by omega) (by decide)), CD.ex EA (e 27 (by omega) (by decide)) (e 28 (by omega) (by decide)), MK, MS4⟩, Or.inr ⟨S, CH, Or.inr (Or.inr ⟨z0, z1, rfl, EK.symm, rfl, rfl⟩)⟩⟩
  refine rt_k (k := 1) (pc' := 290) (L' := [some (.ref 23), some (.int hw), some (.int cu), some (.ref sa), some (.int (nI S.length)), some (.ref ga), some (.int x6), some (.ref gb), y8]) (st' := [.ref 23]) (h' := h2) (fun _ => by first | rfl | (cases y7 <;> rfl) | (cases y8 <;> rfl) | (cases y7 <;> cases y8 <;> rfl)) ?_
  refine rt_gf rfl e23 rfl rfl ?_
  refine rt_k (k := 1) (pc' := 294) (L' := [some (.ref 23), some (.int hw), some (.int cu), some (.ref sa), some (.int (nI S.length)), some (.ref ga), some (.int x6), some (.ref gb), y8]) (st' := [.int (nI 4), .int (nI K.length)]) (h' := h2) (fun _ => by first | rfl | (cases y7 <;> rfl) | (cases y8 <;> rfl) | (cases y7 <;> cases y8 <;> rfl)) ?_
  refine rt_ine rfl (by omega) (by decide) (fun z2 => ?_) (fun z2 => ?_)
  ·
    exact fin K KF h2 _ (by omega) (by rw [if_neg z2]) fr_rf e23 c29 HK
  obtain ⟨g1, hg1⟩ := gt_ex (show 1 < K.length by omega)
  obtain ⟨g2, hg2⟩ := gt_ex (show 2 < K.length by omega)
  obtain ⟨g3, hg3⟩ := gt_ex (show 3 < K.length by omega)
  obtain ⟨a1, f1, Y1⟩ := HK 1 g1 hg1
  obtain ⟨a2, f2, Y2⟩ := HK 2 g2 hg2
  obtain ⟨a3, f3, Y3⟩ := HK 3 g3 hg3
  obtain ⟨rl1, ci1, RF1, CF1, ⟨-, cg1⟩, -⟩ := id Y1
  obtain ⟨rl2, ci2, RF2, CF2, ⟨-, cg2⟩, -⟩ := id Y2
  obtain ⟨rl3, ci3, RF3, CF3, ⟨-, cg3⟩, -⟩ := id Y3
  have u2 : va_up KF 0 (some a1) 2 = some a2 := f2
  have u3 : va_up (va_up KF 0 (some a1)) 1 (some a2) 3 = some a3 := f3
  have e23' := e23
  rw [z2] at e23'
  have sh : ∀ (h3 : List va_E) (z8 : Option Value), fr_ (fun z => z = 23 ∨ z = 29) h2 h3 → h3[23]? = some (mo (nI T.length) nw pa (mq (nI J.length) (nI nx) (nI D.length) (nI 3) (nI made) (nI (wkS g (arr S)).length) nc bc kn)) → h3[29]? = some (.inl (12, 4, .inr (.inr (.inr (.inr (va_up (va_up (va_up KF 0 (some a1)) 1 (some a2)) 2 (some a3))))))) → rt_ X (d + 5) 167 338 [some (.ref 23), some (.int hw), some (.int cu), some (.ref sa), some (.int (nI S.length)), some (.ref ga), some (.int x6), some (.ref gb), z8] [] h3 (fun v h' => gr mB 6 99 h0 h' ∧ ∃ K' made' st', mKp h' ad T J nx D K' made' st' ∧ inR J D K made st g hw cu v K' made' st') := fun h3 z8 F3 f23 f29 => by
    have E3 := fr_ex F3 (fun k q => by unfold zz at q; omega)
    have ld : (K.drop 1).length = 3 := by rw [List.length_drop]; omega
    refine fin (K.drop 1) _ h3 z8 (by omega) (by rw [if_pos z2]) F3 (by rw [ld]; exact f23) f29 (fun i x hx => ?_)
    have hi := gt_lt hx
    rw [ld] at hi
    rw [List.getElem?_drop] at hx
    match i, hi with
    | 0, _ => rw [hg1] at hx; cases hx; exact ⟨a1, rfl, Y1.ex E3⟩
    | 1, _ => rw [hg2] at hx; cases hx; exact ⟨a2, rfl, Y2.ex E3⟩
    | 2, _ => rw [hg3] at hx; cases hx; exact ⟨a3, rfl, Y3.ex E3⟩
  refine rt_k (k := 6) (pc' := 307) (L' := [some (.ref 23), some (.int hw), some (.int cu), some (.ref sa), some (.int (nI S.length)), some (.ref ga), some (.int x6), some (.ref gb), some (.int (nI 0))]) (st' := [.ref 23]) (h' := h2) (fun _ => by first | rfl | (cases y8 <;> rfl)) ?_
  refine rt_gf rfl e23' rfl rfl ?_
  refine rt_k (k := 2) (pc' := 313) (L' := [some (.ref 23), some (.int hw), some (.int cu), some (.ref sa), some (.int (nI S.length)), some (.ref ga), some (.int x6), some (.ref gb), some (.int (nI 0))]) (st' := [.ref 23, .int (nI 0), .ref 29]) (h' := h2) (fun _ => by first | rfl | (cases y8 <;> rfl)) ?_
  refine rt_gf rfl e23' rfl rfl ?_
  refine rt_k (k := 2) (pc' := 319) (L' := [some (.ref 23), some (.int hw), some (.int cu), some (.ref sa), some (.int (nI S.length)), some (.ref ga), some (.int x6), some (.ref gb), some (.int (nI 0))]) (st' := [.int (nI 1), .int (nI 0), .ref 29, .int (nI 0), .ref 29]) (h' := h2) (fun _ => by first | rfl | (cases y8 <;> rfl)) ?_
  refine rt_add rfl ?_
  refine rt_aalN rfl c29 rfl (by omega) (by decide) f1 ?_
  refine rt_aasN rfl c29 cg1 ⟨rfl, rfl⟩ (by omega) (by decide) ?_
  refine rt_nm (fun h_1 e_2 => ?_)
  have f_3 : fr_ (fun z => z = 23 ∨ z = 29) h2 h_1 := by rw [e_2]; exact fr_set (e' := .inl (12, 4, .inr (.inr (.inr (.inr (va_up KF 0 (some a1))))))) c29 (by rfl) (by first | decide | simp)
  have n_4 : h_1.length = h2.length := by rw [e_2]; simp
  have c_5 : h_1[23]? = some (.inr (12, [.ref 24, .int (nI T.length), .ref 25, .int nw, .int pa, .ref 26, .int (nI J.length), .int (nI nx), .ref 27, .ref 28, .int (nI D.length), .ref 29, .int (nI 4), .int (nI made), .ref 30, .ref 31, .int (nI ((wkS g (arr S)).length)), .ref 32, .int nc, .ref 33, .ref 34, .int bc, .int kn, .ref 35])) := by rw [e_2]; exact hs_ne e23' (by decide)
  have c_6 : h_1[29]? = some (.inl (12, 4, .inr (.inr (.inr (.inr (va_up KF 0 (some a1))))))) := by rw [e_2]; exact hs_self c29
  have c_7 : h_1[a1]? = some (.inr (13, [.ref rl1, .ref ci1, .int (nI g1.length)])) := by rw [e_2]; exact hs_ne cg1 (hc_ne c29 cg1 (by intro q; cases q))
  have c_8 : h_1[a2]? = some (.inr (13, [.ref rl2, .ref ci2, .int (nI g2.length)])) := by rw [e_2]; exact hs_ne cg2 (hc_ne c29 cg2 (by intro q; cases q))
  have c_9 : h_1[a3]? = some (.inr (13, [.ref rl3, .ref ci3, .int (nI g3.length)])) := by rw [e_2]; exact hs_ne cg3 (hc_ne c29 cg3 (by intro q; cases q))
  refine rt_inc (c := 1) rfl rfl ?_
  refine rt_k (k := 1) (pc' := 300) (L' := [some (.ref 23), some (.int hw), some (.int cu), some (.ref sa), some (.int (nI S.length)), some (.ref ga), some (.int x6), some (.ref gb), some (.int (nI 1))]) (st' := []) (h' := h_1) (fun _ => by first | rfl | (cases y8 <;> rfl)) ?_
  refine rt_k (k := 3) (pc' := 306) (L' := [some (.ref 23), some (.int hw), some (.int cu), some (.ref sa), some (.int (nI S.length)), some (.ref ga), some (.int x6), some (.ref gb), some (.int (nI 1))]) (st' := []) (h' := h_1) (fun _ => by first | rfl | (cases y8 <;> rfl)) ?_
  refine rt_k (k := 1) (pc' := 307) (L' := [some (.ref 23), some (.int hw), some (.int cu), some (.ref sa), some (.int (nI S.length)), some (.ref ga), some (.int x6), some (.ref gb), some (.int (nI 1))]) (st' := [.ref 23]) (h' := h_1) (fun _ => by first | rfl | (cases y8 <;> rfl)) ?_
  refine rt_gf rfl c_5 rfl rfl ?_
  refine rt_k (k := 2) (pc' := 313) (L' := [some (.ref 23), some (.int hw), some (.int cu), some (.ref sa), some (.int (nI S.length)), some (.ref ga), some (.int x6), some (.ref gb), some (.int (nI 1))]) (st' := [.ref 23, .int (nI 1), .ref 29]) (h' := h_1) (fun _ => by first | rfl | (cases y8 <;> rfl)) ?_
  refine rt_gf rfl c_5 rfl rfl ?_
  refine rt_k (k := 2) (pc' := 319) (L' := [some (.ref 23), some (.int hw), some (.int cu), some (.ref sa), some (.int (nI S.length)), some (.ref ga), some (.int x6), some (.ref gb), some (.int (nI 1))]) (st' := [.int (nI 1), .int (nI 1), .ref 29, .int (nI 1), .ref 29]) (h' := h_1) (fun _ => by first | rfl | (cases y8 <;> rfl)) ?_
  refine rt_add rfl ?_
  refine rt_aalN rfl c_6 rfl (by omega) (by decide) u2 ?_
  refine rt_aasN rfl c_6 c_8 ⟨rfl, rfl⟩ (by omega) (by decide) ?_
  refine rt_nm (fun h_10 e_11 => ?_)
  have f_12 : fr_ (fun z => z = 23 ∨ z = 29) h2 h_10 := by rw [e_11]; exact fr_tr f_3 (fr_set (e' := .inl (12, 4, .inr (.inr (.inr (.inr (va_up (va_up KF 0 (some a1)) 1 (some a2))))))) c_6 (by rfl) (by first | decide | simp))
  have n_13 : h_10.length = h_1.length := by rw [e_11]; simp
  have c_14 : h_10[23]? = some (.inr (12, [.ref 24, .int (nI T.length), .ref 25, .int nw, .int pa, .ref 26, .int (nI J.length), .int (nI nx), .ref 27, .ref 28, .int (nI D.length), .ref 29, .int (nI 4), .int (nI made), .ref 30, .ref 31, .int (nI ((wkS g (arr S)).length)), .ref 32, .int nc, .ref 33, .ref 34, .int bc, .int kn, .ref 35])) := by rw [e_11]; exact hs_ne c_5 (by decide)
  have c_15 : h_10[29]? = some (.inl (12, 4, .inr (.inr (.inr (.inr (va_up (va_up KF 0 (some a1)) 1 (some a2))))))) := by rw [e_11]; exact hs_self c_6
  have c_16 : h_10[a1]? = some (.inr (13, [.ref rl1, .ref ci1, .int (nI g1.length)])) := by rw [e_11]; exact hs_ne c_7 (hc_ne c_6 c_7 (by intro q; cases q))
  have c_17 : h_10[a2]? = some (.inr (13, [.ref rl2, .ref ci2, .int (nI g2.length)])) := by rw [e_11]; exact hs_ne c_8 (hc_ne c_6 c_8 (by intro q; cases q))
  have c_18 : h_10[a3]? = some (.inr (13, [.ref rl3, .ref ci3, .int (nI g3.length)])) := by rw [e_11]; exact hs_ne c_9 (hc_ne c_6 c_9 (by intro q; cases q))
  refine rt_inc (c := 1) rfl rfl ?_
  refine rt_k (k := 1) (pc' := 300) (L' := [some (.ref 23), some (.int hw), some (.int cu), some (.ref sa), some (.int (nI S.length)), some (.ref ga), some (.int x6), some (.ref gb), some (.int (nI 2))]) (st' := []) (h' := h_10) (fun _ => by first | rfl | (cases y8 <;> rfl)) ?_
  refine rt_k (k := 3) (pc' := 306) (L' := [some (.ref 23), some (.int hw), some (.int cu), some (.ref sa), some (.int (nI S.length)), some (.ref ga), some (.int x6), some (.ref gb), some (.int (nI 2))]) (st' := []) (h' := h_10) (fun _ => by first | rfl | (cases y8 <;> rfl)) ?_
  refine rt_k (k := 1) (pc' := 307) (L' := [some (.ref 23), some (.int hw), some (.int cu), some (.ref sa), some (.int (nI S.length)), some (.ref ga), some (.int x6), some (.ref gb), some (.int (nI 2))]) (st' := [.ref 23]) (h' := h_10) (fun _ => by first | rfl | (cases y8 <;> rfl)) ?_
  refine rt_gf rfl c_14 rfl rfl ?_
  refine rt_k (k := 2) (pc' := 313) (L' := [some (.ref 23), some (.int hw), some (.int cu), some (.ref sa), some (.int (nI S.length)), some (.ref ga), some (.int x6), some (.ref gb), some (.int (nI 2))]) (st' := [.ref 23, .int (nI 2), .ref 29]) (h' := h_10) (fun _ => by first | rfl | (cases y8 <;> rfl)) ?_
  refine rt_gf rfl c_14 rfl rfl ?_
  refine rt_k (k := 2) (pc' := 319) (L' := [some (.ref 23), some (.int hw), some (.int cu), some (.ref sa), some (.int (nI S.length)), some (.ref ga), some (.int x6), some (.ref gb), some (.int (nI 2))]) (st' := [.int (nI 1), .int (nI 2), .ref 29, .int (nI 2), .ref 29]) (h' := h_10) (fun _ => by first | rfl | (cases y8 <;> rfl)) ?_
  refine rt_add rfl ?_
  refine rt_aalN rfl c_15 rfl (by omega) (by decide) u3 ?_
  refine rt_aasN rfl c_15 c_18 ⟨rfl, rfl⟩ (by omega) (by decide) ?_
  refine rt_nm (fun h_19 e_20 => ?_)
  have f_21 : fr_ (fun z => z = 23 ∨ z = 29) h2 h_19 := by rw [e_20]; exact fr_tr f_12 (fr_set (e' := .inl (12, 4, .inr (.inr (.inr (.inr (va_up (va_up (va_up KF 0 (some a1)) 1 (some a2)) 2 (some a3))))))) c_15 (by rfl) (by first | decide | simp))
  have n_22 : h_19.length = h_10.length := by rw [e_20]; simp
  have c_23 : h_19[23]? = some (.inr (12, [.ref 24, .int (nI T.length), .ref 25, .int nw, .int pa, .ref 26, .int (nI J.length), .int (nI nx), .ref 27, .ref 28, .int (nI D.length), .ref 29, .int (nI 4), .int (nI made), .ref 30, .ref 31, .int (nI ((wkS g (arr S)).length)), .ref 32, .int nc, .ref 33, .ref 34, .int bc, .int kn, .ref 35])) := by rw [e_20]; exact hs_ne c_14 (by decide)
  have c_24 : h_19[29]? = some (.inl (12, 4, .inr (.inr (.inr (.inr (va_up (va_up (va_up KF 0 (some a1)) 1 (some a2)) 2 (some a3))))))) := by rw [e_20]; exact hs_self c_15
  have c_25 : h_19[a1]? = some (.inr (13, [.ref rl1, .ref ci1, .int (nI g1.length)])) := by rw [e_20]; exact hs_ne c_16 (hc_ne c_15 c_16 (by intro q; cases q))
  have c_26 : h_19[a2]? = some (.inr (13, [.ref rl2, .ref ci2, .int (nI g2.length)])) := by rw [e_20]; exact hs_ne c_17 (hc_ne c_15 c_17 (by intro q; cases q))
  have c_27 : h_19[a3]? = some (.inr (13, [.ref rl3, .ref ci3, .int (nI g3.length)])) := by rw [e_20]; exact hs_ne c_18 (hc_ne c_15 c_18 (by intro q; cases q))
  refine rt_inc (c := 1) rfl rfl ?_
  refine rt_k (k := 6) (pc' := 330) (L' := [some (.ref 23), some (.int hw), some (.int cu), some (.ref sa), some (.int (nI S.length)), some (.ref ga), some (.int x6), some (.ref gb), some (.int (nI 3))]) (st' := [.ref 23, .ref 23]) (h' := h_19) (fun _ => by first | rfl | (cases y8 <;> rfl)) ?_
  refine rt_gf rfl c_23 rfl rfl ?_
  refine rt_k (k := 1) (pc' := 334) (L' := [some (.ref 23), some (.int hw), some (.int cu), some (.ref sa), some (.int (nI S.length)), some (.ref ga), some (.int x6), some (.ref gb), some (.int (nI 3))]) (st' := [.int (nI 1), .int (nI 4), .ref 23]) (h' := h_19) (fun _ => by first | rfl | (cases y8 <;> rfl)) ?_
  refine rt_sub rfl (by omega) ?_
  refine rt_pf rfl c_23 ⟨rfl, (show 12 < 24 by decide), rfl⟩ ?_
  refine rt_nm (fun h_28 e_29 => ?_)
  have f_30 : fr_ (fun z => z = 23 ∨ z = 29) h2 h_28 := by rw [e_29]; exact fr_tr f_21 (fr_set (e' := .inr (12, [.ref 24, .int (nI T.length), .ref 25, .int nw, .int pa, .ref 26, .int (nI J.length), .int (nI nx), .ref 27, .ref 28, .int (nI D.length), .ref 29, .int (nI 3), .int (nI made), .ref 30, .ref 31, .int (nI ((wkS g (arr S)).length)), .ref 32, .int nc, .ref 33, .ref 34, .int bc, .int kn, .ref 35])) c_23 (by rfl) (by first | decide | simp))
  have n_31 : h_28.length = h_19.length := by rw [e_29]; simp
  have c_32 : h_28[23]? = some (.inr (12, [.ref 24, .int (nI T.length), .ref 25, .int nw, .int pa, .ref 26, .int (nI J.length), .int (nI nx), .ref 27, .ref 28, .int (nI D.length), .ref 29, .int (nI 3), .int (nI made), .ref 30, .ref 31, .int (nI ((wkS g (arr S)).length)), .ref 32, .int nc, .ref 33, .ref 34, .int bc, .int kn, .ref 35])) := by rw [e_29]; exact hs_self c_23
  have c_33 : h_28[29]? = some (.inl (12, 4, .inr (.inr (.inr (.inr (va_up (va_up (va_up KF 0 (some a1)) 1 (some a2)) 2 (some a3))))))) := by rw [e_29]; exact hs_ne c_24 (by decide)
  have c_34 : h_28[a1]? = some (.inr (13, [.ref rl1, .ref ci1, .int (nI g1.length)])) := by rw [e_29]; exact hs_ne c_25 (hc_ne c_23 c_25 (by intro q; cases q))
  have c_35 : h_28[a2]? = some (.inr (13, [.ref rl2, .ref ci2, .int (nI g2.length)])) := by rw [e_29]; exact hs_ne c_26 (hc_ne c_23 c_26 (by intro q; cases q))
  have c_36 : h_28[a3]? = some (.inr (13, [.ref rl3, .ref ci3, .int (nI g3.length)])) := by rw [e_29]; exact hs_ne c_27 (hc_ne c_23 c_27 (by intro q; cases q))
  exact sh _ _ f_30 c_32 c_33
end NN

