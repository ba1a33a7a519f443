/-! THE REFERENCE, 39: install, from its beginning. -/
theorem fnd_in {J : List kL} {D : kD} {B : List kL} (f : fnd J D (some B)) : B.Pairwise (fun r s => nmI (lNm r) < nmI (lNm s)) ∧ ∀ r ∈ B, r ∈ J := by
  obtain ⟨N, n1, A, a1, a2, _⟩ := f
  rw [a2]
  refine ⟨asg_fm n1.1 a1, fun r hr => ?_⟩
  obtain ⟨k, hk⟩ := fm_in.mp hr
  exact (a1.2 k r hk).1
section NO
variable {X : Nat × (Nat → Int32)} {d : Nat} {h : List va_E} {Q : Option Value → List va_E → Prop} {ad : Nat → Nat} {T : List Nat} {J : List kL} {nx : Nat} {D : kD} {K : List kG} {made : Nat} {st : kS}
variable {hw cu : Int32} {g : kG}
theorem m_cur1 {nw pa nc bc kn : Int32} {KF : Nat → Option Nat} {a : Nat} (c23 : h[23]? = some (mo (nI T.length) nw pa (mq (nI J.length) (nI nx) (nI D.length) (nI K.length) (nI made) (nI st.length) nc bc kn))) (c29 : h[29]? = some (.inl (12, 4, .inr (.inr (.inr (.inr KF)))))) (hk : 1 ≤ K.length ∧ K.length ≤ 4) (f1 : KF (K.length - 1) = some a) : rt_ X d 168 0 [some (.ref 23)] [] h (fun v h' => v = some (.ref a) ∧ h' = h) := by
  refine rt_k (k := 1) (pc' := 1) (L' := [some (.ref 23)]) (st' := [.ref 23]) (h' := h) (fun _ => rfl) ?_
  refine rt_gf rfl c23 rfl rfl ?_
  refine rt_k (k := 1) (pc' := 5) (L' := [some (.ref 23)]) (st' := [.ref 23, .ref 29]) (h' := h) (fun _ => rfl) ?_
  refine rt_gf rfl c23 rfl rfl ?_
  refine rt_k (k := 1) (pc' := 9) (L' := [some (.ref 23)]) (st' := [.int (nI 1), .int (nI K.length), .ref 29]) (h' := h) (fun _ => rfl) ?_
  refine rt_sub rfl (by omega) ?_
  refine rt_aalN rfl c29 rfl (by omega) (by decide) f1 ?_
  exact rt_r (v := some (.ref a)) rfl rfl (⟨rfl, rfl⟩)
theorem mKp.g35 {h' : List va_E} {c s : Nat} {A0 : Nat → Prop} (C : mKp h ad T J nx D K made st) (G : gr A0 c s h h') (hA : ∀ k, A0 k → k = 35) (d35 : ∃ G : Nat → Int32, h'[35]? = some (.inl (4, 8, .inl G))) : mKp h' ad T J nx D K made st := by
  obtain ⟨l, ⟨nw, pa, nc, bc, kn, c23, ⟨NF, a1⟩, ⟨CF, a2⟩, -, BF, a4, a5⟩, ⟨⟨g, t1, t2⟩, t3, t4⟩, W, CI, CD, CK, CS⟩ := C
  have E := gr_ex G (fun k q y => by have := hA k y; unfold zz at q; omega)
  have e : ∀ k, k < 39 → ¬ k = 35 → h'[k]? = h[k]? := fun k hk hn => G.2.2.2 k (by omega) (fun y => hn (hA k y))
  refine ⟨Nat.le_trans l G.1, ⟨nw, pa, nc, bc, kn, (e 23 (by omega) (by omega)).trans c23, ⟨NF, (e 32 (by omega) (by omega)).trans a1⟩, ⟨CF, (e 33 (by omega) (by omega)).trans a2⟩, d35, BF, (e 34 (by omega) (by omega)).trans a4, ?_⟩, ⟨⟨g, (e 24 (by omega) (by omega)).trans t1, t2⟩, t3, t4⟩, W.ex E (e 25 (by omega) (by omega)), CI.ex E (e 26 (by omega) (by omega)), CD.ex E (e 27 (by omega) (by omega)) (e 28 (by omega) (by omega)), CK.ex E (e 29 (by omega) (by omega)), CS.ex E (e 30 (by omega) (by omega)) (e 31 (by omega) (by omega))⟩
  rcases a5 with q | ⟨q, q2⟩
  · exact Or.inl q
  · refine Or.inr ⟨q, ?_⟩
    rcases q2 with y | ⟨B, y1, y2, y3, y4⟩
    · exact Or.inl y
    · exact Or.inr ⟨B, y1, y2, y3, y4.ex E⟩
theorem mKp.fn2 {h' : List va_E} {c s : Nat} {nw pa nc bc : Int32} {NF CF BF : Nat → Option Nat} {G : Nat → Int32} (C : mKp h ad T J nx D K made st) (GR : gr fF c s h h') (d23 : h'[23]? = some (mo (nI T.length) nw pa (mq (nI J.length) (nI nx) (nI D.length) (nI K.length) (nI made) (nI st.length) nc bc (nI 1)))) (d32 : h'[32]? = some (.inl (9, 8, .inr (.inr (.inr (.inr NF)))))) (d33 : h'[33]? = some (.inl (10, 8, .inr (.inr (.inr (.inr CF)))))) (d34 : h'[34]? = some (.inl (10, 8, .inr (.inr (.inr (.inr BF)))))) (d35 : h'[35]? = some (.inl (4, 8, .inl G))) (q : mCb h' ad J D BF bc) : mKp h' ad T J nx D K made st := by
  obtain ⟨l, -, ⟨⟨g, t1, t2⟩, t3, t4⟩, W, CI, CD, CK, CS⟩ := C
  have E := gr_ex GR fF_zz
  have e : ∀ k, k < 39 → ¬ fF k → h'[k]? = h[k]? := fun k hk hn => GR.2.2.2 k (by omega) hn
  exact ⟨Nat.le_trans l GR.1, ⟨nw, pa, nc, bc, nI 1, d23, ⟨NF, d32⟩, ⟨CF, d33⟩, ⟨G, d35⟩, BF, d34, Or.inr ⟨rfl, q⟩⟩, ⟨⟨g, (e 24 (by decide) (by decide)).trans t1, t2⟩, t3, t4⟩, W.ex E (e 25 (by decide) (by decide)), CI.ex E (e 26 (by decide) (by decide)), CD.ex E (e 27 (by decide) (by decide)) (e 28 (by decide) (by decide)), CK.ex E (e 29 (by decide) (by decide)), CS.ex E (e 30 (by decide) (by decide)) (e 31 (by decide) (by decide))⟩
/-- the next set, once it is known whether the old one stays -/
theorem m_is6 {ga : Nat} {h2 : List va_E} {SF : Nat → Option Nat} {y7 : Option Value} (C : mKp h ad T J nx D K made st) (hg : K[K.length - 1]? = some g) (YG : yG h ad ga g) (h8 : ∀ i N, nmS (J.take i) N → N.length ≤ 8) (okJ : ∀ r ∈ J, okQ r ∧ lNo r < 2147483648) (ju : jU J) (okg : ∀ e ∈ g, okQ e.1 ∧ lNo e.1 < 2147483648) (hds : ∀ (i j : Nat) e f, g[i]? = some e → g[j]? = some f → lNm e.1 = lNm f.1 → i = j) (G2 : gr (fun z => z = 35) 1 8 h h2) (d35 : ∃ G : Nat → Int32, h2[35]? = some (.inl (4, 8, .inl G))) (cs : h2[h.length]? = some (.inl (10, 8, .inr (.inr (.inr (.inr SF)))))) (c : Int32) (x6 : Int32) (hc : (styR J D g hw ∧ c = nI 1) ∨ (¬ styR J D g hw ∧ c = nI 0)) : rt_ X (d + 21) 167 110 [some (.ref 23), some (.int hw), some (.int cu), some (.ref h.length), some (.int (nI 0)), some (.ref ga), some (.int x6), y7, none] [.int c] h2 (fun v h' => gr mB 6 99 h h' ∧ ∃ K' made' st', mKp h' ad T J nx D K' made' st' ∧ inR J D K made st g hw cu v K' made' st') := by
  have l39 := C.1
  have bgg : bG g := fun e he => (okg e he).2
  have E2 := gr_ex G2 (fun k q => by unfold zz at q; omega)
  have M2 := C.g35 G2 (fun k q => q) d35
  have G2B : gr mB 1 8 h h2 := gr_mo G2 (fun k q => by unfold mB; omega) (Nat.le_refl _) (Nat.le_refl _)
  rcases hc with ⟨sty, rfl⟩ | ⟨sty, rfl⟩
  · obtain ⟨rl, ci, RF, CF, ⟨zg, cg0⟩, ⟨zl, cl0⟩, -, g8, HG⟩ := id YG
    have cg := gr_at G2 cg0 (fun q => by unfold zz at zg; omega)
    refine rt_k (k := 4) (pc' := 119) (L' := [some (.ref 23), some (.int hw), some (.int cu), some (.ref h.length), some (.int (nI 0)), some (.ref ga), some (.int (nI 1)), y7, none]) (st' := [.ref ga]) (h' := h2) (fun _ => by first | rfl | (cases y7 <;> rfl)) ?_
    refine rt_gf rfl cg rfl rfl ?_
    refine rt_k (k := 3) (pc' := 127) (L' := [some (.ref 23), some (.int hw), some (.int cu), some (.ref h.length), some (.int (nI g.length)), some (.ref ga), some (.int (nI 1)), some (.int (nI 0)), none]) (st' := []) (h' := h2) (fun _ => by first | rfl | (cases y7 <;> rfl)) ?_
    obtain ⟨RG, d35⟩ := d35
    refine m_is4 (A0 := fun z => z = 35) (c0 := 1) (s0 := 8) l39 (fun k q y => by unfold zz at q; omega) (Nat.le_refl _) YG (fun e he => (okg e he).1.1) hds (fun h3 SF3 L z7 z8 G3 e35 c3 l3 s3 f3 m3 => ?_) 0 (Nat.zero_le _) h2 G2 d35 SF cs [] rfl List.Pairwise.nil (fun j s q => by simp at q) (fun r => ⟨fun q => (by cases q), fun ⟨j, e, q, _⟩ => absurd q (Nat.not_lt_zero _)⟩) _
    have E3 := gr_ex G3 (fun k q => by unfold zz at q; omega)
    have yl : ∀ r ∈ L, yL h3 (ad (lNo r)) r ∧ (okQ r ∧ lNo r < 2147483648) := fun r hr => by
      obtain ⟨e, he, ee⟩ := List.mem_map.mp ((m3 r).mp hr)
      obtain ⟨j, hj⟩ := gt_mem he
      rw [← ee]
      exact ⟨(HG j e hj).2.1.ex E3, okg e he⟩
    have h35 : ∃ G : Nat → Int32, h3[35]? = some (.inl (4, 8, .inl G)) := ⟨RG, e35⟩
    rw [← l3]
    exact m_is8 (d := d + 16) (C.g35 G3 (fun k q => q) h35) (gr_mo G3 (fun k q => by unfold mB; omega) (Nat.le_refl _) (Nat.le_refl _)) hg (YG.ex E3) ⟨c3, by omega, fun j s hs => ⟨f3 j s hs, (yl s (List.mem_of_getElem? hs)).1⟩⟩ l39 s3 (fun r hr => (yl r hr).2) bgg (Or.inl ⟨sty, m3, l3, s3⟩)
  · obtain ⟨-, ⟨nw0, pa0, nc0, bc0, kn0, c23, -⟩, -⟩ := id M2
    refine rt_k (k := 4) (pc' := 207) (L' := [some (.ref 23), some (.int hw), some (.int cu), some (.ref h.length), some (.int (nI 0)), some (.ref ga), some (.int (nI 0)), y7, none]) (st' := [.ref 23]) (h' := h2) (fun _ => by first | rfl | (cases y7 <;> rfl)) ?_
    refine rt_cv rfl (by decide) c23 rfl rfl rfl rfl (m_find (d := d) M2 h8 (fun r hr => (okJ r hr).1.1) ju) ?_
    rintro _ h3 ⟨rfl, F3, M3, nw, pa, nc, bc, BF, d23, d34, (⟨rfl, fn⟩ | ⟨B, rfl, l8, fn, Y⟩)⟩
    · have G3 : gr mB 6 99 h h3 := gr_mo (gr_tr G2B (gr_mo (gr_fr F3) (fun k q => by unfold fF at q; unfold mB; omega) (Nat.le_refl _) (Nat.le_refl _))) (fun _ q => q) (by omega) (by omega)
      refine rt_k (k := 1) (pc' := 211) (L' := [some (.ref 23), some (.int hw), some (.int cu), some (.ref h.length), some (.int (nI 0)), some (.ref ga), some (.int (nI 0)), y7, none]) (st' := [.ref 23]) (h' := h3) (fun _ => by first | rfl | (cases y7 <;> rfl)) ?_
      refine rt_gf rfl d23 rfl rfl ?_
      refine rt_k (k := 2) (pc' := 219) (L' := [some (.ref 23), some (.int hw), some (.int cu), some (.ref h.length), some (.int (nI 0)), some (.ref ga), some (.int (nI 0)), y7, none]) (st' := [.int (-2)]) (h' := h3) (fun _ => by first | rfl | (cases y7 <;> rfl)) ?_
      exact rt_r (v := some (.int (-2))) rfl rfl (⟨G3, K, made, st, M3, Or.inl ⟨sty, fn, rfl, rfl, rfl, rfl⟩⟩)
    · have G3 : gr mB 1 8 h h3 := gr_mo (gr_tr G2B (gr_mo (gr_fr F3) (fun k q => by unfold fF at q; unfold mB; omega) (Nat.le_refl _) (Nat.le_refl _))) (fun _ q => q) (by omega) (by omega)
      have E3 := gr_ex G3 mB_zz
      have fi := fnd_in fn
      have yJ : ∀ r ∈ J, yL h (ad (lNo r)) r := fun r hr => by
        obtain ⟨-, -, -, -, ⟨IF, -, -, HI⟩, -⟩ := id C
        obtain ⟨j, hj⟩ := gt_mem hr
        exact (HI j r hj).2
      have cs3 := fr_at F3 (show ¬ fF h.length by unfold fF; omega) cs
      refine rt_k (k := 1) (pc' := 211) (L' := [some (.ref 23), some (.int hw), some (.int cu), some (.ref h.length), some (.int (nI 0)), some (.ref ga), some (.int (nI 0)), y7, none]) (st' := [.ref 23]) (h' := h3) (fun _ => by first | rfl | (cases y7 <;> rfl)) ?_
      refine rt_gf rfl d23 rfl rfl ?_
      refine rt_zge rfl (by omega) ?_
      refine rt_k (k := 1) (pc' := 221) (L' := [some (.ref 23), some (.int hw), some (.int cu), some (.ref h.length), some (.int (nI 0)), some (.ref ga), some (.int (nI 0)), y7, none]) (st' := [.ref 23]) (h' := h3) (fun _ => by first | rfl | (cases y7 <;> rfl)) ?_
      refine rt_gf rfl d23 rfl rfl ?_
      refine rt_k (k := 3) (pc' := 229) (L' := [some (.ref 23), some (.int hw), some (.int cu), some (.ref h.length), some (.int (nI B.length)), some (.ref ga), some (.int (nI 0)), some (.int (nI 0)), none]) (st' := []) (h' := h3) (fun _ => by first | rfl | (cases y7 <;> rfl)) ?_
      refine m_is5 (h := h3) (h0 := h) (A0 := mB) (c0 := 1) (s0 := 8) (B := B) (kn := nI 1) mB_zz l39 (Nat.le_refl _) l8 (fun j r hr => ⟨(Y j r hr).1, yJ r (fi.2 r (List.mem_of_getElem? hr))⟩) (fun h4 SF4 z7 F4 c4 f4 => ?_) 0 (Nat.zero_le _) h3 fr_rf G3 d23 d34 SF cs3 (fun j s hj => absurd hj (Nat.not_lt_zero _))
      have G4 : gr fF 1 8 h h4 := gr_w2 (gr_w2 (gr_mo G2 (fun k q => by unfold fF; omega) (Nat.le_refl _) (Nat.le_refl _)) F3 (fun k q => Or.inr q)) F4 (fun k q => Or.inl (by omega))
      have E4 := gr_ex G4 fF_zz
      have n4 : ∀ k, k < 39 → ¬ k = h.length := fun k hk => by omega
      obtain ⟨-, ⟨nw5, pa5, nc5, bc5, kn5, c5, ⟨NF5, e32⟩, ⟨CF5, e33⟩, ⟨RF5, e35⟩, -⟩, -⟩ := id M3
      have Y4 : yLs h4 ad BF B := fun j r hr => ⟨(Y j r hr).1, (yJ r (fi.2 r (List.mem_of_getElem? hr))).ex E4⟩
      have M4 : mKp h4 ad T J nx D K made st := C.fn2 G4 (fr_at F4 (n4 23 (by omega)) d23) (fr_at F4 (n4 32 (by omega)) e32) (fr_at F4 (n4 33 (by omega)) e33) (fr_at F4 (n4 34 (by omega)) d34) (fr_at F4 (n4 35 (by omega)) e35) (Or.inr ⟨B, rfl, l8, fn, Y4⟩)
      exact m_is8 (d := d + 16) M4 (gr_mo G4 (fun k q => by unfold fF at q; unfold mB; omega) (Nat.le_refl _) (Nat.le_refl _)) hg (YG.ex E4) ⟨c4, l8, fun j s hs => ⟨f4 j s hs, (Y4 j s hs).2⟩⟩ l39 fi.1 (fun r hr => okJ r (fi.2 r hr)) bgg (Or.inr ⟨sty, fn⟩)
theorem m_install (C : mKp h ad T J nx D K made st) (hg : K[K.length - 1]? = some g) (h8 : ∀ i N, nmS (J.take i) N → N.length ≤ 8) (okJ : ∀ r ∈ J, okQ r ∧ lNo r < 2147483648) (ju : jU J) (okg : ∀ e ∈ g, okQ e.1 ∧ lNo e.1 < 2147483648) (hds : ∀ (i j : Nat) e f, g[i]? = some e → g[j]? = some f → lNm e.1 = lNm f.1 → i = j) (hw cu : Int32) : rt_ X (d + 21) 167 0 [some (.ref 23), some (.int hw), some (.int cu), none, none, none, none, none, none] [] h (fun v h' => (¬ hw = 0 ∧ ¬ hw = 1 ∧ v = some (.int (-1)) ∧ h' = h) ∨ ((hw = 0 ∨ hw = 1) ∧ gr mB 6 99 h h' ∧ ∃ K' made' st', mKp h' ad T J nx D K' made' st' ∧ inR J D K made st g hw cu v K' made' st')) := by
  obtain ⟨l39, ⟨nw, pa, nc, bc, kn, c23, CA⟩, TT, W, CI, CD, CK, CS⟩ := id C
  obtain ⟨-, -, ⟨RG, c35⟩, -⟩ := id CA
  obtain ⟨KF, c29, k1, k4, HK⟩ := id CK
  obtain ⟨ga, fg, YG⟩ := HK _ g hg
  have bgg : bG g := fun e he => (okg e he).2
  obtain ⟨rl, ci, RF, CF, ⟨zg, cg0⟩, ⟨zl, cl0⟩, -, g8, HG⟩ := id YG
  have lga := hc_lt cg0
  have lrl := hc_lt cl0
  refine rt_k (k := 1) (pc' := 1) (L' := [some (.ref 23), some (.int hw), some (.int cu), none, none, none, none, none, none]) (st' := [.int hw]) (h' := h) (fun _ => rfl) ?_
  refine rt_qlt rfl (fun z0 => ?_) (fun z0 => ?_)
  ·
    refine rt_k (k := 1) (pc' := 10) (L' := [some (.ref 23), some (.int hw), some (.int cu), none, none, none, none, none, none]) (st' := [.int (-1)]) (h' := h) (fun _ => rfl) ?_
    exact rt_r (v := some (.int (-1))) rfl rfl (Or.inl ⟨(fun q => by rw [q] at z0; exact absurd z0 (by decide)), (fun q => by rw [q] at z0; exact absurd z0 (by decide)), rfl, rfl⟩)
  refine rt_k (k := 2) (pc' := 6) (L' := [some (.ref 23), some (.int hw), some (.int cu), none, none, none, none, none, none]) (st' := [.int (nI 1), .int hw]) (h' := h) (fun _ => rfl) ?_
  refine rt_jle rfl (fun z1 => ?_) (fun z1 => ?_)
  rotate_left
  ·
    refine rt_k (k := 1) (pc' := 10) (L' := [some (.ref 23), some (.int hw), some (.int cu), none, none, none, none, none, none]) (st' := [.int (-1)]) (h' := h) (fun _ => rfl) ?_
    exact rt_r (v := some (.int (-1))) rfl rfl (Or.inl ⟨(fun q => by rw [q] at z1; exact absurd z1 (by decide)), (fun q => by rw [q] at z1; exact absurd z1 (by decide)), rfl, rfl⟩)
  have hw01 := i32_le1 z0 z1
  suffices ss : rt_ X (d + 21) 167 11 [some (.ref 23), some (.int hw), some (.int cu), none, none, none, none, none, none] [] h (fun v h' => gr mB 6 99 h h' ∧ ∃ K' made' st', mKp h' ad T J nx D K' made' st' ∧ inR J D K made st g hw cu v K' made' st') from rt_w ss (fun v h' q => Or.inr ⟨hw01, q⟩)
  refine rt_k (k := 1) (pc' := 13) (L' := [some (.ref 23), some (.int hw), some (.int cu), none, none, none, none, none, none]) (st' := [.int (nI 8)]) (h' := h) (fun _ => rfl) ?_
  refine rt_k (k := 1) (pc' := 16) (L' := [some (.ref 23), some (.int hw), some (.int cu), none, none, none, none, none, none]) (st' := [.ref h.length]) (h' := (h ++ [.inl (10, 8, .inr (.inr (.inr (.inr (fun _ => none)))))])) (fun _ => rfl) ?_
  refine rt_nm (fun h_1 e_2 => ?_)
  have g_3 : gr (fun _ => False) 1 (8) h h_1 := by rw [e_2]; exact gr_mo (gr_tr (gr_rf (h := h)) (gr_app (.inl (10, 8, .inr (.inr (.inr (.inr (fun _ => none)))))))) (fun _ q => q) (by first | exact Nat.le_refl _ | omega) (by first | exact Nat.le_refl _ | (simp only [ab_z]; omega))
  have n_4 : h_1.length = h.length + 1 := by rw [e_2]; simp
  have c_5 : h_1[23]? = some (.inr (12, [.ref 24, .int (nI T.length), .ref 25, .int nw, .int pa, .ref 26, .int (nI J.length), .int (nI nx), .ref 27, .ref 28, .int (nI D.length), .ref 29, .int (nI K.length), .int (nI made), .ref 30, .ref 31, .int (nI st.length), .ref 32, .int nc, .ref 33, .ref 34, .int bc, .int kn, .ref 35])) := by rw [e_2]; exact ha_old _ c23
  have c_6 : h_1[h.length]? = some (.inl (10, 8, .inr (.inr (.inr (.inr (fun _ => none)))))) := by rw [e_2]; exact ha_new
  refine rt_k (k := 3) (pc' := 20) (L' := [some (.ref 23), some (.int hw), some (.int cu), some (.ref h.length), some (.int (nI 0)), none, none, none, none]) (st' := []) (h' := h_1) (fun _ => rfl) ?_
  have G1 := g_3
  have cs := c_6
  generalize h_1 = h1 at *
  have E1 := gr_ex G1 (fun _ _ => id)
  have d23 := gr_at G1 c23 id
  have d29 := gr_at G1 c29 id
  have d35 := gr_at G1 c35 id
  have CI1 := CI.ex E1 (G1.2.2.2 26 (by omega) id)
  have CD1 := CD.ex E1 (G1.2.2.2 27 (by omega) id) (G1.2.2.2 28 (by omega) id)
  have YG1 := YG.ex E1
  have cg1 := gr_at G1 cg0 id
  have cl1 := gr_at G1 cl0 id
  have G1' : gr (fun z => z = 35) 1 8 h h1 := gr_mo G1 (fun _ q => absurd q id) (Nat.le_refl _) (Nat.le_refl _)
  have lg : (g.map (fun e => some e.1)).length = g.length := List.length_map ..
  have CAg : yA h1 ad rl RF (g.map (fun e => some e.1)) := ⟨cl1, by rw [lg]; exact g8, fun i x hx => by
    rw [List.getElem?_map, Option.map_eq_some_iff] at hx
    obtain ⟨e, he, rfl⟩ := hx
    exact ⟨(HG i e he).1, (HG i e he).2.1.ex E1⟩⟩
  have dsg : dsA (g.map (fun e => some e.1)) := fun i j r s hi hj q => by
    rw [List.getElem?_map, Option.map_eq_some_iff] at hi hj
    obtain ⟨e, he, e1⟩ := hi
    obtain ⟨f, hf, f1⟩ := hj
    cases e1
    cases f1
    exact hds i j e f he hf q
  have at35 : ∀ c, c = tB (hw = 0) → rt_ X (d + 21) 167 35 [some (.ref 23), some (.int hw), some (.int cu), some (.ref h.length), some (.int (nI 0)), some (.ref ga), none, none, none] [.int c] h1 (fun v h' => gr mB 6 99 h h' ∧ ∃ K' made' st', mKp h' ad T J nx D K' made' st' ∧ inR J D K made st g hw cu v K' made' st') := fun c hc => by
    subst hc
    refine rt_k (k := 3) (pc' := 40) (L' := [some (.ref 23), some (.int hw), some (.int cu), some (.ref h.length), some (.int (nI 0)), some (.ref ga), some (.int (tB (hw = 0))), some (.int (nI 0)), none]) (st' := []) (h' := h1) (fun _ => rfl) ?_
    refine m_is1 (d := d + 20) d23 CI1 YG1 ⟨fun s hs => (okJ s hs).2, bgg⟩ (nI 0) none (fun y7 => ?_) 0 (Nat.zero_le _) (hw = 0) ⟨fun q => ⟨q, fun j e hj => absurd hj (Nat.not_lt_zero _)⟩, fun q => q.1⟩
    refine rt_k (k := 1) (pc' := 85) (L' := [some (.ref 23), some (.int hw), some (.int cu), some (.ref h.length), some (.int (nI 0)), some (.ref ga), some (.int (tB (hw = 0 ∧ ∀ e ∈ g, ∃ r ∈ J, lNo r = lNo e.1))), y7, none]) (st' := [.int (tB (hw = 0 ∧ ∀ e ∈ g, ∃ r ∈ J, lNo r = lNo e.1))]) (h' := h1) (fun _ => by first | rfl | (cases y7 <;> rfl)) ?_
    refine rt_pe rfl (fun z2 => ?_) (fun z2 => ?_)
    ·
      refine rt_k (k := 1) (pc' := 110) (L' := [some (.ref 23), some (.int hw), some (.int cu), some (.ref h.length), some (.int (nI 0)), some (.ref ga), some (.int (tB (hw = 0 ∧ ∀ e ∈ g, ∃ r ∈ J, lNo r = lNo e.1))), y7, none]) (st' := [.int (nI 0)]) (h' := h1) (fun _ => by first | rfl | (cases y7 <;> rfl)) ?_
      exact m_is6 C hg YG h8 okJ ju okg hds G1' ⟨RG, d35⟩ cs (nI 0) _ (Or.inr ⟨fun q => z2 ⟨q.1, q.2.1⟩, rfl⟩)
    refine rt_k (k := 2) (pc' := 91) (L' := [some (.ref 23), some (.int hw), some (.int cu), some (.ref h.length), some (.int (nI 0)), some (.ref ga), some (.int (tB (hw = 0 ∧ ∀ e ∈ g, ∃ r ∈ J, lNo r = lNo e.1))), y7, none]) (st' := [.ref ga, .ref 23]) (h' := h1) (fun _ => by first | rfl | (cases y7 <;> rfl)) ?_
    refine rt_gf rfl cg1 rfl rfl ?_
    refine rt_k (k := 1) (pc' := 96) (L' := [some (.ref 23), some (.int hw), some (.int cu), some (.ref h.length), some (.int (nI 0)), some (.ref ga), some (.int (tB (hw = 0 ∧ ∀ e ∈ g, ∃ r ∈ J, lNo r = lNo e.1))), y7, none]) (st' := [.ref ga, .ref rl, .ref 23]) (h' := h1) (fun _ => by first | rfl | (cases y7 <;> rfl)) ?_
    refine rt_gf rfl cg1 rfl rfl ?_
    rw [← lg]
    refine rt_cv rfl (by decide) d23 rfl rfl rfl rfl (m_valid (d := d + 10) (sa := rl) (by unfold zz at zl; omega) d23 CD1 CAg dsg RG d35) ?_
    rintro _ h2 ⟨F2, g35, rfl⟩
    have G2 : gr (fun z => z = 35) 1 8 h h2 := gr_w2 G1' F2 (fun k q => Or.inr q)
    have cs2 := fr_at F2 (show ¬ h.length = 35 by omega) cs
    have vi : vl D ((g.map (fun e => some e.1)).filterMap id) ↔ vl D (g.map Prod.fst) := by rw [fm_map]
    rw [tB_c vi]
    refine rt_pe rfl (fun z3 => ?_) (fun z3 => ?_)
    ·
      refine rt_k (k := 1) (pc' := 110) (L' := [some (.ref 23), some (.int hw), some (.int cu), some (.ref h.length), some (.int (nI 0)), some (.ref ga), some (.int (tB (hw = 0 ∧ ∀ e ∈ g, ∃ r ∈ J, lNo r = lNo e.1))), y7, none]) (st' := [.int (nI 0)]) (h' := h2) (fun _ => by first | rfl | (cases y7 <;> rfl)) ?_
      exact m_is6 C hg YG h8 okJ ju okg hds G2 g35 cs2 (nI 0) _ (Or.inr ⟨fun q => z3 q.2.2, rfl⟩)
    refine rt_k (k := 2) (pc' := 110) (L' := [some (.ref 23), some (.int hw), some (.int cu), some (.ref h.length), some (.int (nI 0)), some (.ref ga), some (.int (tB (hw = 0 ∧ ∀ e ∈ g, ∃ r ∈ J, lNo r = lNo e.1))), y7, none]) (st' := [.int (nI 1)]) (h' := h2) (fun _ => by first | rfl | (cases y7 <;> rfl)) ?_
    exact m_is6 C hg YG h8 okJ ju okg hds G2 g35 cs2 (nI 1) _ (Or.inl ⟨⟨z2.1, z2.2, z3⟩, rfl⟩)
  refine rt_k (k := 1) (pc' := 21) (L' := [some (.ref 23), some (.int hw), some (.int cu), some (.ref h.length), some (.int (nI 0)), none, none, none, none]) (st' := [.ref 23]) (h' := h1) (fun _ => rfl) ?_
  refine rt_cvE rfl (by decide) d23 rfl rfl rfl rfl (m_cur1 (d := d + 20) d23 d29 ⟨k1, k4⟩ fg) ?_
  refine rt_k (k := 2) (pc' := 27) (L' := [some (.ref 23), some (.int hw), some (.int cu), some (.ref h.length), some (.int (nI 0)), some (.ref ga), none, none, none]) (st' := [.int hw]) (h' := h1) (fun _ => rfl) ?_
  refine rt_qn rfl (fun z4 => ?_) (fun z4 => ?_)
  rotate_left
  ·
    refine rt_k (k := 2) (pc' := 35) (L' := [some (.ref 23), some (.int hw), some (.int cu), some (.ref h.length), some (.int (nI 0)), some (.ref ga), none, none, none]) (st' := [.int (nI 1)]) (h' := h1) (fun _ => rfl) ?_
    exact at35 _ (tF1 z4)
  refine rt_k (k := 1) (pc' := 35) (L' := [some (.ref 23), some (.int hw), some (.int cu), some (.ref h.length), some (.int (nI 0)), some (.ref ga), none, none, none]) (st' := [.int (nI 0)]) (h' := h1) (fun _ => rfl) ?_
  exact at35 _ (tF0 z4)
end NO

