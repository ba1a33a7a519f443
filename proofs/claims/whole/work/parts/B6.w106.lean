/-! THE LAW, 1: both sides' state; its calls. -/
section LA
variable {X : Nat × (Nat → Int32)} {d M pc r : Nat} {L : ab_Lo} {st : List Value} {h : List va_E} {Q : Option Value → List va_E → Prop}
theorem rt_sln (hi : ab_k (tb_il M) pc = some (.arraylength, r)) (k : rt_ X d M (pc + 1) L (.int (nI X.1) :: st) h Q) : rt_ X d M pc L (.retAddr 1000 :: st) h Q :=
  rt_s1 hi (by simp only [ab_x, ab_n]; rfl) k
theorem rt_sal {j : Nat} (hi : ab_k (tb_il M) pc = some (.iaload, r)) (hj : j < X.1) (hX : X.1 ≤ 3072) (k : rt_ X d M (pc + 1) L (.int (X.2 j) :: st) h Q) : rt_ X d M pc L (.int (nI j) :: .retAddr 1000 :: st) h Q :=
  rt_s1 hi (by simp only [ab_x, ab_n]; rw [if_pos ⟨trivial, tp_ix hj (by omega)⟩, nI_clamp (by omega)]) k
end LA
section LB
variable {I J : List kL} {nx : Nat} {D : kD} {K : List kG} {st : kS}
theorem inv.j8 (H : inv I J nx D K) : ∀ i N, nmS (J.take i) N → N.length ≤ 8 := fun i N hN => by
  obtain ⟨L, l1, l2⟩ := nm_len H.ix
  have h8 := H.n8
  have : N.length ≤ L.length := nd_len (nms_nd hN) (fun w hw => by
    obtain ⟨s, hs, e⟩ := (hN.2 w).mp hw
    exact (l1.2 w).mpr ⟨s, (H.mm s).mpr (List.mem_of_mem_take hs), e⟩)
  omega
theorem inv.okJ (H : inv I J nx D K) : ∀ r ∈ J, okQ r ∧ lNo r < 2147483648 := fun r hr => by
  have hr' := (H.mm r).mpr hr
  have := H.no r hr'
  have := H.nx6
  exact ⟨(H.pt r hr').1, by omega⟩
theorem inv.sm (H : inv I J nx D K) : ∀ r ∈ J, smW (lNm r) := fun r hr => (H.okJ r hr).1.1
theorem inv.bd (H : inv I J nx D K) (sb : ∀ e ∈ st, e.1 < nx) : bnd nx J K st := ⟨fun r hr => H.no r ((H.mm r).mpr hr), fun g hg e he => ((H.gk g hg).e he).2, sb⟩
theorem inv.ju (H : inv I J nx D K) : jU J := fun r s hr hs e q => by
  obtain ⟨i, hi⟩ := gt_mem ((H.mm r).mpr hr)
  obtain ⟨j, hj⟩ := gt_mem ((H.mm s).mpr hs)
  have key : ∀ (a b : Nat) (x y : kL), a < b → I[a]? = some x → I[b]? = some y → lNm x = lNm y → vc (lVe x) (lVe y) = 0 → False := fun a b x y hab hx hy e q => by
    rcases oa_lt.mp (pw_lt H.ix.1 hab hx hy) with z | z
    · rw [e] at z; exact i64_irr _ z
    · rw [q] at z; exact absurd z.2 (by decide)
  rcases Nat.lt_trichotomy i j with y | y | y
  · exact absurd (key i j r s y hi hj e q) id
  · subst y; rw [hi] at hj; exact Option.some.inj hj
  · refine absurd (key j i s r y hj hi e.symm ?_) id
    rw [vc_sy, q]; rfl
theorem inv.okg (H : inv I J nx D K) {g : kG} (hg : g ∈ K) : ∀ e ∈ g, okQ e.1 ∧ lNo e.1 < 2147483648 := fun e he => by
  have := (H.gk g hg).e he
  have := H.nx6
  exact ⟨(H.gk g hg).e he |>.1.1, by omega⟩
theorem inv.bg (H : inv I J nx D K) {g : kG} (hg : g ∈ K) : bG g := fun e he => (H.okg hg e he).2
theorem gOK.len {g : kG} (a : gOK nx g) : g.length ≤ 8 := by
  obtain ⟨S, rfl, _, b, _⟩ := a
  rw [arr_len]; exact b
theorem inv.hds (H : inv I J nx D K) {g : kG} (hg : g ∈ K) : ∀ (i j : Nat) e f, g[i]? = some e → g[j]? = some f → lNm e.1 = lNm f.1 → i = j := fun i j e f hi hj q => by
  obtain ⟨S, rfl, b, _⟩ := H.gk g hg
  obtain ⟨nd, mm⟩ := arr_nd (nmP_nd b)
  have he := (mm e.1).mp (List.mem_map.mpr ⟨e, List.mem_of_getElem? hi, rfl⟩)
  have hf := (mm f.1).mp (List.mem_map.mpr ⟨f, List.mem_of_getElem? hj, rfl⟩)
  obtain ⟨p, hp⟩ := gt_mem he
  obtain ⟨p', hp'⟩ := gt_mem hf
  have : p = p' := by
    apply Classical.byContradiction
    intro w
    rcases Nat.lt_or_gt_of_ne w with y | y
    · have := pw_lt b y hp hp'; rw [q] at this; exact i64_irr _ this
    · have := pw_lt b y hp' hp; rw [q] at this; exact i64_irr _ this
  subst this
  rw [hp] at hp'
  have ef : e.1 = f.1 := Option.some.inj hp'
  apply Classical.byContradiction
  intro w
  rcases Nat.lt_or_gt_of_ne w with y | y
  · exact pw_lt nd y (show ((arr S).map Prod.fst)[i]? = some e.1 by rw [List.getElem?_map, hi]; rfl) (show ((arr S).map Prod.fst)[j]? = some f.1 by rw [List.getElem?_map, hj]; rfl) ef
  · exact pw_lt nd y (show ((arr S).map Prod.fst)[j]? = some f.1 by rw [List.getElem?_map, hj]; rfl) (show ((arr S).map Prod.fst)[i]? = some e.1 by rw [List.getElem?_map, hi]; rfl) ef.symm
theorem inv.H8 (H : inv I J nx D K) : ∀ h so fo, sL h I D so fo → so → crd fo I.length ≤ 8 := fun h so fo S hso => by
  obtain ⟨gn, riv, ned, rg, op, li, _, b, c⟩ := S
  exact h8_of H ⟨b, c⟩ hso
end LB
/-- both sides, behind so many calls -/
def both (h : List va_E) (m : Nat) : Prop := ∃ (ad : Nat → Nat) (T : List Nat) (I J : List kL) (nx : Nat) (D : kD) (K : List kG) (made : Nat) (st : kS), kKp h T I nx D K made st ∧ mKp h ad T J nx D K made st ∧ inv I J nx D K ∧ (∀ e ∈ st, e.1 < nx) ∧ nx ≤ m ∧ made ≤ m ∧ h.length + 12 * T.length ≤ 39 + 1159 * m ∧ ab_sl tb_nf h + 230 * T.length ≤ 20000 + 5735 * m
section LC
variable {X : Nat × (Nat → Int32)} {h : List va_E} {Q : Option Value → List va_E → Prop} {m : Nat}

set_option maxRecDepth 8192 in
theorem lw_c0 (B : both h m) (hm : m < 512) (hX : X.1 ≤ 3072) (hi : 6 * m + 6 ≤ X.1) (k : ∀ h', both h' (m + 1) → rt_ X 1000 208 463 [some (.retAddr 1000), some (.ref 0), some (.ref 23), some (.int (nI (6 * m)))] [] h' Q) : rt_ X 1000 208 108 [some (.retAddr 1000), some (.ref 0), some (.ref 23), some (.int (nI (6 * m)))] [] h Q := by
  obtain ⟨ad, T, I, J, nx, D, K, made, st, CK, CM, IV, sb, n1, n2, r1, r2⟩ := B
  have hK1 := CM.2.2.2.2.2.2.1.choose_spec.2.1
  obtain ⟨g, hg⟩ := gt_ex (show K.length - 1 < K.length by omega)
  have hgK := List.mem_of_getElem? hg
  have wl2 := wl_ln T
  have k0 : h[0]? = some (.inr (0, [.ref 1, .ref 3, .ref 4, .ref 6, .ref 9, .ref 14])) := CK.2.1
  refine rt_k (k := 4) (pc' := 112) (L' := [some (.retAddr 1000), some (.ref 0), some (.ref 23), some (.int (nI (6 * m)))]) (st' := [.int (nI 1), .int (nI (6 * m)), .retAddr 1000, .ref 0]) (h' := h) (fun _ => rfl) ?_
  refine rt_add rfl ?_
  refine rt_sal rfl (by omega) hX ?_
  refine rt_k (k := 3) (pc' := 117) (L' := [some (.retAddr 1000), some (.ref 0), some (.ref 23), some (.int (nI (6 * m)))]) (st' := [.int (nI 2), .int (nI (6 * m)), .retAddr 1000, .int (X.2 ((6 * m) + 1)), .ref 0]) (h' := h) (fun _ => rfl) ?_
  refine rt_add rfl ?_
  refine rt_sal rfl (by omega) hX ?_
  refine rt_k (k := 3) (pc' := 122) (L' := [some (.retAddr 1000), some (.ref 0), some (.ref 23), some (.int (nI (6 * m)))]) (st' := [.int (nI 3), .int (nI (6 * m)), .retAddr 1000, .int (X.2 ((6 * m) + 2)), .int (X.2 ((6 * m) + 1)), .ref 0]) (h' := h) (fun _ => rfl) ?_
  refine rt_add rfl ?_
  refine rt_sal rfl (by omega) hX ?_
  refine rt_k (k := 3) (pc' := 127) (L' := [some (.retAddr 1000), some (.ref 0), some (.ref 23), some (.int (nI (6 * m)))]) (st' := [.int (nI 4), .int (nI (6 * m)), .retAddr 1000, .int (X.2 ((6 * m) + 3)), .int (X.2 ((6 * m) + 2)), .int (X.2 ((6 * m) + 1)), .ref 0]) (h' := h) (fun _ => rfl) ?_
  refine rt_add rfl ?_
  refine rt_sal rfl (by omega) hX ?_
  refine rt_k (k := 3) (pc' := 132) (L' := [some (.retAddr 1000), some (.ref 0), some (.ref 23), some (.int (nI (6 * m)))]) (st' := [.int (nI 5), .int (nI (6 * m)), .retAddr 1000, .int (X.2 ((6 * m) + 4)), .int (X.2 ((6 * m) + 3)), .int (X.2 ((6 * m) + 2)), .int (X.2 ((6 * m) + 1)), .ref 0]) (h' := h) (fun _ => rfl) ?_
  refine rt_add rfl ?_
  refine rt_sal rfl (by omega) hX ?_
  refine rt_cv rfl (by decide) k0 rfl rfl rfl rfl (kk_feed (d := 998) CK (X.2 (6 * m + 1)) (X.2 (6 * m + 2)) (X.2 (6 * m + 3)) (X.2 (6 * m + 4)) (X.2 (6 * m + 5))) ?_
  rintro v1 h1 ⟨g1, T1, CK1, q1⟩
  obtain ⟨x1, rfl⟩ : ∃ x : Int32, v1 = some (.int x) := by rcases q1 with ⟨_, rfl, _⟩ | ⟨_, rfl, _⟩ <;> exact ⟨_, rfl⟩
  have CM1 := CM.gk g1
  obtain ⟨-, ⟨nw, pa, nc, bc, kn, c23, -⟩, -⟩ := id CM1
  refine rt_k (k := 4) (pc' := 141) (L' := [some (.retAddr 1000), some (.ref 0), some (.ref 23), some (.int (nI (6 * m)))]) (st' := [.int (nI 1), .int (nI (6 * m)), .retAddr 1000, .ref 23, .int x1]) (h' := h1) (fun _ => rfl) ?_
  refine rt_add rfl ?_
  refine rt_sal rfl (by omega) hX ?_
  refine rt_k (k := 3) (pc' := 146) (L' := [some (.retAddr 1000), some (.ref 0), some (.ref 23), some (.int (nI (6 * m)))]) (st' := [.int (nI 2), .int (nI (6 * m)), .retAddr 1000, .int (X.2 ((6 * m) + 1)), .ref 23, .int x1]) (h' := h1) (fun _ => rfl) ?_
  refine rt_add rfl ?_
  refine rt_sal rfl (by omega) hX ?_
  refine rt_k (k := 3) (pc' := 151) (L' := [some (.retAddr 1000), some (.ref 0), some (.ref 23), some (.int (nI (6 * m)))]) (st' := [.int (nI 3), .int (nI (6 * m)), .retAddr 1000, .int (X.2 ((6 * m) + 2)), .int (X.2 ((6 * m) + 1)), .ref 23, .int x1]) (h' := h1) (fun _ => rfl) ?_
  refine rt_add rfl ?_
  refine rt_sal rfl (by omega) hX ?_
  refine rt_k (k := 3) (pc' := 156) (L' := [some (.retAddr 1000), some (.ref 0), some (.ref 23), some (.int (nI (6 * m)))]) (st' := [.int (nI 4), .int (nI (6 * m)), .retAddr 1000, .int (X.2 ((6 * m) + 3)), .int (X.2 ((6 * m) + 2)), .int (X.2 ((6 * m) + 1)), .ref 23, .int x1]) (h' := h1) (fun _ => rfl) ?_
  refine rt_add rfl ?_
  refine rt_sal rfl (by omega) hX ?_
  refine rt_k (k := 3) (pc' := 161) (L' := [some (.retAddr 1000), some (.ref 0), some (.ref 23), some (.int (nI (6 * m)))]) (st' := [.int (nI 5), .int (nI (6 * m)), .retAddr 1000, .int (X.2 ((6 * m) + 4)), .int (X.2 ((6 * m) + 3)), .int (X.2 ((6 * m) + 2)), .int (X.2 ((6 * m) + 1)), .ref 23, .int x1]) (h' := h1) (fun _ => rfl) ?_
  refine rt_add rfl ?_
  refine rt_sal rfl (by omega) hX ?_
  refine rt_cv rfl (by decide) c23 rfl rfl rfl rfl (mm_feed (d := 998) CM1 (X.2 (6 * m + 1)) (X.2 (6 * m + 2)) (X.2 (6 * m + 3)) (X.2 (6 * m + 4)) (X.2 (6 * m + 5))) ?_
  rintro v2 h2 ⟨g2, T2, CM2, q2⟩
  obtain ⟨rfl, rfl⟩ := feR_u q1 q2
  have CK2 := CK1.gm g2
  have tl : T2.length ≤ T.length + 20 := by
    rcases q1 with ⟨_, _, rfl⟩ | ⟨_, _, rfl⟩
    · rw [List.length_append, tp20_len]; omega
    · omega
  refine rt_jeq rfl (fun _ => ?_) (fun z => absurd z ((fun q => q rfl)))
  exact k h2 ⟨ad, T2, I, J, nx, D, K, made, st, CK2, CM2, IV, sb, by omega, by omega, by have u1 := g1.2.1; have u2 := g1.2.2.1; have u3 := g2.2.1; have u4 := g2.2.2.1; omega, by have u1 := g1.2.1; have u2 := g1.2.2.1; have u3 := g2.2.1; have u4 := g2.2.2.1; omega⟩
set_option maxRecDepth 8192 in
theorem lw_c1 (B : both h m) (hm : m < 512) (hX : X.1 ≤ 3072) (hi : 6 * m + 6 ≤ X.1) (k : ∀ h', both h' (m + 1) → rt_ X 1000 208 463 [some (.retAddr 1000), some (.ref 0), some (.ref 23), some (.int (nI (6 * m)))] [] h' Q) : rt_ X 1000 208 171 [some (.retAddr 1000), some (.ref 0), some (.ref 23), some (.int (nI (6 * m)))] [] h Q := by
  obtain ⟨ad, T, I, J, nx, D, K, made, st, CK, CM, IV, sb, n1, n2, r1, r2⟩ := B
  have hK1 := CM.2.2.2.2.2.2.1.choose_spec.2.1
  obtain ⟨g, hg⟩ := gt_ex (show K.length - 1 < K.length by omega)
  have hgK := List.mem_of_getElem? hg
  have wl2 := wl_ln T
  have k0 : h[0]? = some (.inr (0, [.ref 1, .ref 3, .ref 4, .ref 6, .ref 9, .ref 14])) := CK.2.1
  refine rt_k (k := 4) (pc' := 175) (L' := [some (.retAddr 1000), some (.ref 0), some (.ref 23), some (.int (nI (6 * m)))]) (st' := [.int (nI 1), .int (nI (6 * m)), .retAddr 1000, .ref 0]) (h' := h) (fun _ => rfl) ?_
  refine rt_add rfl ?_
  refine rt_sal rfl (by omega) hX ?_
  refine rt_cv rfl (by decide) k0 rfl rfl rfl rfl (kk_end (d := 998) CK (X.2 (6 * m + 1))) ?_
  rintro v1 h1 ⟨g1, T1, CK1, q1⟩
  obtain ⟨x1, rfl⟩ : ∃ x : Int32, v1 = some (.int x) := by rcases q1 with ⟨_, rfl, _⟩ | ⟨_, rfl, _⟩ <;> exact ⟨_, rfl⟩
  have CM1 := CM.gk g1
  obtain ⟨-, ⟨nw, pa, nc, bc, kn, c23, -⟩, -⟩ := id CM1
  refine rt_k (k := 4) (pc' := 184) (L' := [some (.retAddr 1000), some (.ref 0), some (.ref 23), some (.int (nI (6 * m)))]) (st' := [.int (nI 1), .int (nI (6 * m)), .retAddr 1000, .ref 23, .int x1]) (h' := h1) (fun _ => rfl) ?_
  refine rt_add rfl ?_
  refine rt_sal rfl (by omega) hX ?_
  refine rt_cv rfl (by decide) c23 rfl rfl rfl rfl (mm_end (d := 999) CM1 (X.2 (6 * m + 1))) ?_
  rintro v2 h2 ⟨g2, T2, CM2, q2⟩
  obtain ⟨rfl, rfl⟩ := enR_u q1 q2
  have CK2 := CK1.gm g2
  have tl : T2.length ≤ T.length := by
    rcases q1 with ⟨_, _, rfl⟩ | ⟨_, _, rfl⟩
    · omega
    · rw [List.length_take]; omega
  refine rt_jeq rfl (fun _ => ?_) (fun z => absurd z ((fun q => q rfl)))
  exact k h2 ⟨ad, T2, I, J, nx, D, K, made, st, CK2, CM2, IV, sb, by omega, by omega, by have u1 := g1.2.1; have u2 := g1.2.2.1; have u3 := g2.2.1; have u4 := g2.2.2.1; omega, by have u1 := g1.2.1; have u2 := g1.2.2.1; have u3 := g2.2.1; have u4 := g2.2.2.1; omega⟩
set_option maxRecDepth 8192 in
theorem lw_c2 (B : both h m) (hm : m < 512) (hX : X.1 ≤ 3072) (hi : 6 * m + 6 ≤ X.1) (k : ∀ h', both h' (m + 1) → rt_ X 1000 208 463 [some (.retAddr 1000), some (.ref 0), some (.ref 23), some (.int (nI (6 * m)))] [] h' Q) : rt_ X 1000 208 194 [some (.retAddr 1000), some (.ref 0), some (.ref 23), some (.int (nI (6 * m)))] [] h Q := by
  obtain ⟨ad, T, I, J, nx, D, K, made, st, CK, CM, IV, sb, n1, n2, r1, r2⟩ := B
  have hK1 := CM.2.2.2.2.2.2.1.choose_spec.2.1
  obtain ⟨g, hg⟩ := gt_ex (show K.length - 1 < K.length by omega)
  have hgK := List.mem_of_getElem? hg
  have wl2 := wl_ln T
  have k0 : h[0]? = some (.inr (0, [.ref 1, .ref 3, .ref 4, .ref 6, .ref 9, .ref 14])) := CK.2.1
  refine rt_k (k := 1) (pc' := 195) (L' := [some (.retAddr 1000), some (.ref 0), some (.ref 23), some (.int (nI (6 * m)))]) (st' := [.ref 0]) (h' := h) (fun _ => rfl) ?_
  refine rt_cv rfl (by decide) k0 rfl rfl rfl rfl (kp_release (d := 990) CK (by omega)) ?_
  rintro v1 h1 ⟨g1, I1, nx1, CK1, q1⟩
  obtain ⟨x1, rfl⟩ : ∃ x : Int32, v1 = some (.int x) := by rcases q1 with ⟨_, rfl, _⟩ | ⟨r, _, (⟨_, rfl, _⟩ | ⟨_, _, rfl, _⟩ | ⟨_, _, rfl, _⟩)⟩ <;> exact ⟨_, rfl⟩
  have CM1 := CM.gk g1
  obtain ⟨-, ⟨nw, pa, nc, bc, kn, c23, -⟩, -⟩ := id CM1
  refine rt_k (k := 1) (pc' := 199) (L' := [some (.retAddr 1000), some (.ref 0), some (.ref 23), some (.int (nI (6 * m)))]) (st' := [.ref 23, .int x1]) (h' := h1) (fun _ => rfl) ?_
  refine rt_cv rfl (by decide) c23 rfl rfl rfl rfl (m_release (d := 989) CM1 IV.j8 IV.sm (IV.bd sb)) ?_
  rintro v2 h2 ⟨g2, ad2, J2, nx2, CM2, q2⟩
  obtain ⟨rfl, rfl, IV2⟩ := s_rel IV (by omega) q1 q2
  have CK2 := CK1.gm g2
  have hn : nx ≤ nx2 ∧ nx2 ≤ nx + 1 := by
    rcases q1 with ⟨_, _, _, e⟩ | ⟨r, _, (⟨_, _, _, e⟩ | ⟨_, _, _, _, e⟩ | ⟨_, _, _, e, _⟩)⟩ <;> omega
  refine rt_jeq rfl (fun _ => ?_) (fun z => absurd z ((fun q => q rfl)))
  exact k h2 ⟨ad2, [], I1, J2, nx2, D, K, made, st, CK2, CM2, IV2, (fun e he => by have := sb e he; omega), by omega, by omega, by have u1 := g1.2.1; have u2 := g1.2.2.1; have u3 := g2.2.1; have u4 := g2.2.2.1; unfold mcl at u3; rw [List.length_nil]; omega, by have u1 := g1.2.1; have u2 := g1.2.2.1; have u3 := g2.2.1; have u4 := g2.2.2.1; unfold msl at u4; rw [List.length_nil]; omega⟩
set_option maxRecDepth 8192 in
theorem lw_c3 (B : both h m) (hm : m < 512) (hX : X.1 ≤ 3072) (hi : 6 * m + 6 ≤ X.1) (k : ∀ h', both h' (m + 1) → rt_ X 1000 208 463 [some (.retAddr 1000), some (.ref 0), some (.ref 23), some (.int (nI (6 * m)))] [] h' Q) : rt_ X 1000 208 207 [some (.retAddr 1000), some (.ref 0), some (.ref 23), some (.int (nI (6 * m)))] [] h Q := by
  obtain ⟨ad, T, I, J, nx, D, K, made, st, CK, CM, IV, sb, n1, n2, r1, r2⟩ := B
  have hK1 := CM.2.2.2.2.2.2.1.choose_spec.2.1
  obtain ⟨g, hg⟩ := gt_ex (show K.length - 1 < K.length by omega)
  have hgK := List.mem_of_getElem? hg
  have wl2 := wl_ln T
  have k0 : h[0]? = some (.inr (0, [.ref 1, .ref 3, .ref 4, .ref 6, .ref 9, .ref 14])) := CK.2.1
  refine rt_k (k := 4) (pc' := 211) (L' := [some (.retAddr 1000), some (.ref 0), some (.ref 23), some (.int (nI (6 * m)))]) (st' := [.int (nI 1), .int (nI (6 * m)), .retAddr 1000, .ref 0]) (h' := h) (fun _ => rfl) ?_
  refine rt_add rfl ?_
  refine rt_sal rfl (by omega) hX ?_
  refine rt_cv rfl (by decide) k0 rfl rfl rfl rfl (kk_drop (d := 998) CK (X.2 (6 * m + 1))) ?_
  rintro v1 h1 ⟨g1, I1, CK1, q1⟩
  obtain ⟨x1, rfl⟩ : ∃ x : Int32, v1 = some (.int x) := by rcases q1 with ⟨_, rfl, _⟩ | ⟨p, r, _, _, rfl, _⟩ <;> exact ⟨_, rfl⟩
  have CM1 := CM.gk g1
  obtain ⟨-, ⟨nw, pa, nc, bc, kn, c23, -⟩, -⟩ := id CM1
  refine rt_k (k := 4) (pc' := 220) (L' := [some (.retAddr 1000), some (.ref 0), some (.ref 23), some (.int (nI (6 * m)))]) (st' := [.int (nI 1), .int (nI (6 * m)), .retAddr 1000, .ref 23, .int x1]) (h' := h1) (fun _ => rfl) ?_
  refine rt_add rfl ?_
  refine rt_sal rfl (by omega) hX ?_
  refine rt_cv rfl (by decide) c23 rfl rfl rfl rfl (m_drop (d := 999) CM1 (X.2 (6 * m + 1))) ?_
  rintro v2 h2 ⟨F2, J2, CM2, q2⟩
  have g2 : gr mB 0 0 h1 h2 := gr_mo (gr_fr F2) (fun k q => by unfold mB; omega) (Nat.le_refl _) (Nat.le_refl _)
  have CK2 := CK1.gm g2
  have fin : v2 = some (.int x1) ∧ inv I1 J2 nx D K := by
    rcases q1 with ⟨a, e, rfl⟩ | ⟨p, r, a, b, e, rfl⟩
    · obtain ⟨a1, a2⟩ := s_drop0 IV a q2
      rw [a2]
      exact ⟨a1.trans e.symm, IV⟩
    · obtain ⟨a1, a2⟩ := s_drop IV a b q2
      exact ⟨a1.trans e.symm, a2⟩
  obtain ⟨rfl, IV2⟩ := fin
  refine rt_jeq rfl (fun _ => ?_) (fun z => absurd z ((fun q => q rfl)))
  exact k h2 ⟨ad, T, I1, J2, nx, D, K, made, st, CK2, CM2, IV2, sb, by omega, by omega, by have u1 := g1.2.1; have u2 := g1.2.2.1; have u3 := g2.2.1; have u4 := g2.2.2.1; omega, by have u1 := g1.2.1; have u2 := g1.2.2.1; have u3 := g2.2.1; have u4 := g2.2.2.1; omega⟩
set_option maxRecDepth 8192 in
theorem lw_c4 (B : both h m) (hm : m < 512) (hX : X.1 ≤ 3072) (hi : 6 * m + 6 ≤ X.1) (k : ∀ h', both h' (m + 1) → rt_ X 1000 208 463 [some (.retAddr 1000), some (.ref 0), some (.ref 23), some (.int (nI (6 * m)))] [] h' Q) : rt_ X 1000 208 230 [some (.retAddr 1000), some (.ref 0), some (.ref 23), some (.int (nI (6 * m)))] [] h Q := by
  obtain ⟨ad, T, I, J, nx, D, K, made, st, CK, CM, IV, sb, n1, n2, r1, r2⟩ := B
  have hK1 := CM.2.2.2.2.2.2.1.choose_spec.2.1
  obtain ⟨g, hg⟩ := gt_ex (show K.length - 1 < K.length by omega)
  have hgK := List.mem_of_getElem? hg
  have wl2 := wl_ln T
  have k0 : h[0]? = some (.inr (0, [.ref 1, .ref 3, .ref 4, .ref 6, .ref 9, .ref 14])) := CK.2.1
  refine rt_k (k := 1) (pc' := 231) (L' := [some (.retAddr 1000), some (.ref 0), some (.ref 23), some (.int (nI (6 * m)))]) (st' := [.ref 0]) (h' := h) (fun _ => rfl) ?_
  refine rt_cv rfl (by decide) k0 rfl rfl rfl rfl (kp_want (d := 991) CK) ?_
  rintro v1 h1 ⟨g1, D1, CK1, q1⟩
  obtain ⟨x1, rfl⟩ : ∃ x : Int32, v1 = some (.int x) := by rcases q1 with ⟨_, rfl, _⟩ | ⟨w, us, R, _, _, _, (⟨_, _, rfl, _⟩ | ⟨_, _, rfl, _⟩ | ⟨p, e, _, _, rfl, _⟩)⟩ <;> exact ⟨_, rfl⟩
  have CM1 := CM.gk g1
  obtain ⟨-, ⟨nw, pa, nc, bc, kn, c23, -⟩, -⟩ := id CM1
  refine rt_k (k := 1) (pc' := 235) (L' := [some (.retAddr 1000), some (.ref 0), some (.ref 23), some (.int (nI (6 * m)))]) (st' := [.ref 23, .int x1]) (h' := h1) (fun _ => rfl) ?_
  refine rt_cv rfl (by decide) c23 rfl rfl rfl rfl (m_want (d := 991) CM1) ?_
  rintro v2 h2 ⟨g2, D2, CM2, q2⟩
  obtain ⟨rfl, rfl, IV2⟩ := s_want IV q1 q2
  have CK2 := CK1.gm g2
  refine rt_jeq rfl (fun _ => ?_) (fun z => absurd z ((fun q => q rfl)))
  exact k h2 ⟨ad, [], I, J, nx, D2, K, made, st, CK2, CM2, IV2, sb, by omega, by omega, by have u1 := g1.2.1; have u2 := g1.2.2.1; have u3 := g2.2.1; have u4 := g2.2.2.1; unfold mcl at u3; rw [List.length_nil]; omega, by have u1 := g1.2.1; have u2 := g1.2.2.1; have u3 := g2.2.1; have u4 := g2.2.2.1; unfold msl at u4; rw [List.length_nil]; omega⟩
set_option maxRecDepth 8192 in
theorem lw_c5 (B : both h m) (hm : m < 512) (hX : X.1 ≤ 3072) (hi : 6 * m + 6 ≤ X.1) (k : ∀ h', both h' (m + 1) → rt_ X 1000 208 463 [some (.retAddr 1000), some (.ref 0), some (.ref 23), some (.int (nI (6 * m)))] [] h' Q) : rt_ X 1000 208 243 [some (.retAddr 1000), some (.ref 0), some (.ref 23), some (.int (nI (6 * m)))] [] h Q := by
  obtain ⟨ad, T, I, J, nx, D, K, made, st, CK, CM, IV, sb, n1, n2, r1, r2⟩ := B
  have hK1 := CM.2.2.2.2.2.2.1.choose_spec.2.1
  obtain ⟨g, hg⟩ := gt_ex (show K.length - 1 < K.length by omega)
  have hgK := List.mem_of_getElem? hg
  have wl2 := wl_ln T
  have k0 : h[0]? = some (.inr (0, [.ref 1, .ref 3, .ref 4, .ref 6, .ref 9, .ref 14])) := CK.2.1
  refine rt_k (k := 1) (pc' := 244) (L' := [some (.retAddr 1000), some (.ref 0), some (.ref 23), some (.int (nI (6 * m)))]) (st' := [.ref 0]) (h' := h) (fun _ => rfl) ?_
  refine rt_cv rfl (by decide) k0 rfl rfl rfl rfl (kp_unwant (d := 992) CK) ?_
  rintro v1 h1 ⟨g1, D1, CK1, q1⟩
  obtain ⟨x1, rfl⟩ : ∃ x : Int32, v1 = some (.int x) := by rcases q1 with ⟨_, rfl, _⟩ | ⟨w, _, _, (⟨_, rfl, _⟩ | ⟨p, e, _, _, _, rfl, _⟩)⟩ <;> exact ⟨_, rfl⟩
  have CM1 := CM.gk g1
  obtain ⟨-, ⟨nw, pa, nc, bc, kn, c23, -⟩, -⟩ := id CM1
  refine rt_k (k := 1) (pc' := 248) (L' := [some (.retAddr 1000), some (.ref 0), some (.ref 23), some (.int (nI (6 * m)))]) (st' := [.ref 23, .int x1]) (h' := h1) (fun _ => rfl) ?_
  refine rt_cv rfl (by decide) c23 rfl rfl rfl rfl (m_unwant (d := 993) CM1) ?_
  rintro v2 h2 ⟨g2, D2, CM2, q2⟩
  obtain ⟨rfl, rfl, IV2⟩ := s_unwant IV q1 q2
  have CK2 := CK1.gm g2
  refine rt_jeq rfl (fun _ => ?_) (fun z => absurd z ((fun q => q rfl)))
  exact k h2 ⟨ad, [], I, J, nx, D2, K, made, st, CK2, CM2, IV2, sb, by omega, by omega, by have u1 := g1.2.1; have u2 := g1.2.2.1; have u3 := g2.2.1; have u4 := g2.2.2.1; unfold mcl at u3; rw [List.length_nil]; omega, by have u1 := g1.2.1; have u2 := g1.2.2.1; have u3 := g2.2.1; have u4 := g2.2.2.1; unfold msl at u4; rw [List.length_nil]; omega⟩
set_option maxRecDepth 8192 in
theorem lw_c7 (B : both h m) (hm : m < 512) (hX : X.1 ≤ 3072) (hi : 6 * m + 6 ≤ X.1) (k : ∀ h', both h' (m + 1) → rt_ X 1000 208 463 [some (.retAddr 1000), some (.ref 0), some (.ref 23), some (.int (nI (6 * m)))] [] h' Q) : rt_ X 1000 208 289 [some (.retAddr 1000), some (.ref 0), some (.ref 23), some (.int (nI (6 * m)))] [] h Q := by
  obtain ⟨ad, T, I, J, nx, D, K, made, st, CK, CM, IV, sb, n1, n2, r1, r2⟩ := B
  have hK1 := CM.2.2.2.2.2.2.1.choose_spec.2.1
  obtain ⟨g, hg⟩ := gt_ex (show K.length - 1 < K.length by omega)
  have hgK := List.mem_of_getElem? hg
  have wl2 := wl_ln T
  have k0 : h[0]? = some (.inr (0, [.ref 1, .ref 3, .ref 4, .ref 6, .ref 9, .ref 14])) := CK.2.1
  refine rt_k (k := 4) (pc' := 293) (L' := [some (.retAddr 1000), some (.ref 0), some (.ref 23), some (.int (nI (6 * m)))]) (st' := [.int (nI 1), .int (nI (6 * m)), .retAddr 1000, .ref 0]) (h' := h) (fun _ => rfl) ?_
  refine rt_add rfl ?_
  refine rt_sal rfl (by omega) hX ?_
  refine rt_cv rfl (by decide) k0 rfl rfl rfl rfl (kk_rollback (d := 996) CK (X.2 (6 * m + 1))) ?_
  rintro v1 h1 ⟨g1, K1, st1, CK1, q1⟩
  obtain ⟨x1, rfl⟩ : ∃ x : Int32, v1 = some (.int x) := by rcases q1 with ⟨_, rfl, _⟩ | ⟨_, _, rfl, _⟩ | ⟨_, _, g, t, _, _, rfl, _⟩ <;> exact ⟨_, rfl⟩
  have CM1 := CM.gk g1
  obtain ⟨-, ⟨nw, pa, nc, bc, kn, c23, -⟩, -⟩ := id CM1
  refine rt_k (k := 4) (pc' := 302) (L' := [some (.retAddr 1000), some (.ref 0), some (.ref 23), some (.int (nI (6 * m)))]) (st' := [.int (nI 1), .int (nI (6 * m)), .retAddr 1000, .ref 23, .int x1]) (h' := h1) (fun _ => rfl) ?_
  refine rt_add rfl ?_
  refine rt_sal rfl (by omega) hX ?_
  refine rt_cv rfl (by decide) c23 rfl rfl rfl rfl (m_rollback (d := 997) CM1 (fun g hg => IV.bg hg) (X.2 (6 * m + 1))) ?_
  rintro v2 h2 ⟨F2, K2, st2, CM2, q2⟩
  have g2 : gr mB 0 0 h1 h2 := gr_mo (gr_fr F2) (fun k q => by unfold wS at q; unfold mB; omega) (Nat.le_refl _) (Nat.le_refl _)
  obtain ⟨rfl, rfl, rfl⟩ := rbR_u q1 q2
  have CK2 := CK1.gm g2
  have fin : inv I J nx D K2 ∧ ∀ e ∈ st2, e.1 < nx := by
    rcases q1 with ⟨_, _, rfl, rfl⟩ | ⟨_, _, _, rfl, rfl⟩ | ⟨_, _, g', t', hg', ht', _, rfl, rfl⟩
    · exact ⟨IV, sb⟩
    · exact ⟨IV, sb⟩
    · refine ⟨s_sub IV (fun g hg => List.mem_of_mem_take hg), fun e he => ?_⟩
      obtain ⟨x, hx, ex⟩ := wkS_in he
      rw [ex]
      rcases hx with hx | hx
      · exact ((IV.gk g' (List.mem_of_getElem? hg')).e hx).2
      · exact ((IV.gk t' (List.mem_of_getElem? ht')).e hx).2
  obtain ⟨IV2, sb2⟩ := fin
  refine rt_jeq rfl (fun _ => ?_) (fun z => absurd z ((fun q => q rfl)))
  exact k h2 ⟨ad, T, I, J, nx, D, K2, made, st2, CK2, CM2, IV2, sb2, by omega, by omega, by have u1 := g1.2.1; have u2 := g1.2.2.1; have u3 := g2.2.1; have u4 := g2.2.2.1; omega, by have u1 := g1.2.1; have u2 := g1.2.2.1; have u3 := g2.2.1; have u4 := g2.2.2.1; omega⟩
set_option maxRecDepth 8192 in
theorem lw_c8 (B : both h m) (hm : m < 512) (hX : X.1 ≤ 3072) (hi : 6 * m + 6 ≤ X.1) (k : ∀ h', both h' (m + 1) → rt_ X 1000 208 463 [some (.retAddr 1000), some (.ref 0), some (.ref 23), some (.int (nI (6 * m)))] [] h' Q) : rt_ X 1000 208 312 [some (.retAddr 1000), some (.ref 0), some (.ref 23), some (.int (nI (6 * m)))] [] h Q := by
  obtain ⟨ad, T, I, J, nx, D, K, made, st, CK, CM, IV, sb, n1, n2, r1, r2⟩ := B
  have hK1 := CM.2.2.2.2.2.2.1.choose_spec.2.1
  obtain ⟨g, hg⟩ := gt_ex (show K.length - 1 < K.length by omega)
  have hgK := List.mem_of_getElem? hg
  have wl2 := wl_ln T
  have k0 : h[0]? = some (.inr (0, [.ref 1, .ref 3, .ref 4, .ref 6, .ref 9, .ref 14])) := CK.2.1
  refine rt_k (k := 4) (pc' := 316) (L' := [some (.retAddr 1000), some (.ref 0), some (.ref 23), some (.int (nI (6 * m)))]) (st' := [.int (nI 1), .int (nI (6 * m)), .retAddr 1000, .ref 0]) (h' := h) (fun _ => rfl) ?_
  refine rt_add rfl ?_
  refine rt_sal rfl (by omega) hX ?_
  refine rt_cv rfl (by decide) k0 rfl rfl rfl rfl (kk_best (d := 978) CK IV.n8 (X.2 (6 * m + 1))) ?_
  rintro v1 h1 ⟨g1, CK1, q1⟩
  obtain ⟨x1, rfl⟩ : ∃ x : Int32, v1 = some (.int x) := by obtain ⟨_, _, _, _, _, _, _, _, _, q⟩ := q1; rcases q with ⟨_, rfl⟩ | ⟨_, _, (⟨_, rfl⟩ | ⟨_, (⟨_, _, _, _, rfl⟩ | ⟨_, rfl⟩)⟩)⟩ <;> exact ⟨_, rfl⟩
  have CM1 := CM.gk g1
  obtain ⟨-, ⟨nw, pa, nc, bc, kn, c23, -⟩, -⟩ := id CM1
  refine rt_k (k := 4) (pc' := 325) (L' := [some (.retAddr 1000), some (.ref 0), some (.ref 23), some (.int (nI (6 * m)))]) (st' := [.int (nI 1), .int (nI (6 * m)), .retAddr 1000, .ref 23, .int x1]) (h' := h1) (fun _ => rfl) ?_
  refine rt_add rfl ?_
  refine rt_sal rfl (by omega) hX ?_
  refine rt_cv rfl (by decide) c23 rfl rfl rfl rfl (m_best (d := 978) CM1 IV.j8 IV.sm IV.ju (X.2 (6 * m + 1))) ?_
  rintro v2 h2 ⟨F2, CM2, q2⟩
  have g2 : gr mB 0 0 h1 h2 := gr_mo (gr_fr F2) (fun k q => by unfold fF at q; unfold mB; omega) (Nat.le_refl _) (Nat.le_refl _)
  obtain rfl := s_best IV q1 q2
  have CK2 := CK1.gm g2
  refine rt_jeq rfl (fun _ => ?_) (fun z => absurd z ((fun q => q rfl)))
  exact k h2 ⟨ad, T, I, J, nx, D, K, made, st, CK2, CM2, IV, sb, by omega, by omega, by have u1 := g1.2.1; have u2 := g1.2.2.1; have u3 := g2.2.1; have u4 := g2.2.2.1; omega, by have u1 := g1.2.1; have u2 := g1.2.2.1; have u3 := g2.2.1; have u4 := g2.2.2.1; omega⟩
set_option maxRecDepth 8192 in
theorem lw_c9 (B : both h m) (hm : m < 512) (hX : X.1 ≤ 3072) (hi : 6 * m + 6 ≤ X.1) (k : ∀ h', both h' (m + 1) → rt_ X 1000 208 463 [some (.retAddr 1000), some (.ref 0), some (.ref 23), some (.int (nI (6 * m)))] [] h' Q) : rt_ X 1000 208 335 [some (.retAddr 1000), some (.ref 0), some (.ref 23), some (.int (nI (6 * m)))] [] h Q := by
  obtain ⟨ad, T, I, J, nx, D, K, made, st, CK, CM, IV, sb, n1, n2, r1, r2⟩ := B
  have hK1 := CM.2.2.2.2.2.2.1.choose_spec.2.1
  obtain ⟨g, hg⟩ := gt_ex (show K.length - 1 < K.length by omega)
  have hgK := List.mem_of_getElem? hg
  have wl2 := wl_ln T
  have k0 : h[0]? = some (.inr (0, [.ref 1, .ref 3, .ref 4, .ref 6, .ref 9, .ref 14])) := CK.2.1
  refine rt_k (k := 4) (pc' := 339) (L' := [some (.retAddr 1000), some (.ref 0), some (.ref 23), some (.int (nI (6 * m)))]) (st' := [.int (nI 1), .int (nI (6 * m)), .retAddr 1000, .ref 0]) (h' := h) (fun _ => rfl) ?_
  refine rt_add rfl ?_
  refine rt_sal rfl (by omega) hX ?_
  refine rt_k (k := 3) (pc' := 344) (L' := [some (.retAddr 1000), some (.ref 0), some (.ref 23), some (.int (nI (6 * m)))]) (st' := [.int (nI 2), .int (nI (6 * m)), .retAddr 1000, .int (X.2 ((6 * m) + 1)), .ref 0]) (h' := h) (fun _ => rfl) ?_
  refine rt_add rfl ?_
  refine rt_sal rfl (by omega) hX ?_
  refine rt_cvH rfl (by decide) k0 rfl rfl rfl rfl (kp_current (d := 997) k0 CK.2.2.2.2.2.2 hg (X.2 (6 * m + 1)) (X.2 (6 * m + 2))) ?_
  rintro v1 q1
  obtain ⟨x1, rfl⟩ : ∃ x : Int32, v1 = some (.int x) := by rcases q1 with ⟨_, _, rfl⟩ | ⟨_, _, rfl⟩ | ⟨j, e, _, _, (⟨_, rfl⟩ | ⟨_, rfl⟩)⟩ <;> exact ⟨_, rfl⟩
  have CM1 := CM
  obtain ⟨-, ⟨nw, pa, nc, bc, kn, c23, -⟩, -⟩ := id CM1
  refine rt_k (k := 4) (pc' := 353) (L' := [some (.retAddr 1000), some (.ref 0), some (.ref 23), some (.int (nI (6 * m)))]) (st' := [.int (nI 1), .int (nI (6 * m)), .retAddr 1000, .ref 23, .int x1]) (h' := h) (fun _ => rfl) ?_
  refine rt_add rfl ?_
  refine rt_sal rfl (by omega) hX ?_
  refine rt_k (k := 3) (pc' := 358) (L' := [some (.retAddr 1000), some (.ref 0), some (.ref 23), some (.int (nI (6 * m)))]) (st' := [.int (nI 2), .int (nI (6 * m)), .retAddr 1000, .int (X.2 ((6 * m) + 1)), .ref 23, .int x1]) (h' := h) (fun _ => rfl) ?_
  refine rt_add rfl ?_
  refine rt_sal rfl (by omega) hX ?_
  refine rt_cvH rfl (by decide) c23 rfl rfl rfl rfl (m_current (d := 998) CM1 hg (X.2 (6 * m + 1)) (X.2 (6 * m + 2))) ?_
  rintro v2 q2
  obtain rfl := curP_u (IV.gk g hgK).len q1 q2
  refine rt_jeq rfl (fun _ => ?_) (fun z => absurd z ((fun q => q rfl)))
  exact k h ⟨ad, T, I, J, nx, D, K, made, st, CK, CM, IV, sb, by omega, by omega, by omega, by omega⟩
set_option maxRecDepth 8192 in
theorem lw_c10 (B : both h m) (hm : m < 512) (hX : X.1 ≤ 3072) (hi : 6 * m + 6 ≤ X.1) (k : ∀ h', both h' (m + 1) → rt_ X 1000 208 463 [some (.retAddr 1000), some (.ref 0), some (.ref 23), some (.int (nI (6 * m)))] [] h' Q) : rt_ X 1000 208 368 [some (.retAddr 1000), some (.ref 0), some (.ref 23), some (.int (nI (6 * m)))] [] h Q := by
  obtain ⟨ad, T, I, J, nx, D, K, made, st, CK, CM, IV, sb, n1, n2, r1, r2⟩ := B
  have hK1 := CM.2.2.2.2.2.2.1.choose_spec.2.1
  obtain ⟨g, hg⟩ := gt_ex (show K.length - 1 < K.length by omega)
  have hgK := List.mem_of_getElem? hg
  have wl2 := wl_ln T
  have k0 : h[0]? = some (.inr (0, [.ref 1, .ref 3, .ref 4, .ref 6, .ref 9, .ref 14])) := CK.2.1
  refine rt_k (k := 4) (pc' := 372) (L' := [some (.retAddr 1000), some (.ref 0), some (.ref 23), some (.int (nI (6 * m)))]) (st' := [.int (nI 1), .int (nI (6 * m)), .retAddr 1000, .ref 0]) (h' := h) (fun _ => rfl) ?_
  refine rt_add rfl ?_
  refine rt_sal rfl (by omega) hX ?_
  refine rt_k (k := 3) (pc' := 377) (L' := [some (.retAddr 1000), some (.ref 0), some (.ref 23), some (.int (nI (6 * m)))]) (st' := [.int (nI 2), .int (nI (6 * m)), .retAddr 1000, .int (X.2 ((6 * m) + 1)), .ref 0]) (h' := h) (fun _ => rfl) ?_
  refine rt_add rfl ?_
  refine rt_sal rfl (by omega) hX ?_
  refine rt_cvH rfl (by decide) k0 rfl rfl rfl rfl (kp_step (d := 997) k0 CK.2.2.2.2.2.2 (X.2 (6 * m + 1)) (X.2 (6 * m + 2))) ?_
  rintro v1 q1
  obtain ⟨x1, rfl⟩ : ∃ x : Int32, v1 = some (.int x) := by rcases q1 with ⟨_, _, rfl⟩ | ⟨_, _, rfl⟩ | ⟨j, e, _, _, (⟨_, rfl⟩ | ⟨_, rfl⟩)⟩ <;> exact ⟨_, rfl⟩
  have CM1 := CM
  obtain ⟨-, ⟨nw, pa, nc, bc, kn, c23, -⟩, -⟩ := id CM1
  refine rt_k (k := 4) (pc' := 386) (L' := [some (.retAddr 1000), some (.ref 0), some (.ref 23), some (.int (nI (6 * m)))]) (st' := [.int (nI 1), .int (nI (6 * m)), .retAddr 1000, .ref 23, .int x1]) (h' := h) (fun _ => rfl) ?_
  refine rt_add rfl ?_
  refine rt_sal rfl (by omega) hX ?_
  refine rt_k (k := 3) (pc' := 391) (L' := [some (.retAddr 1000), some (.ref 0), some (.ref 23), some (.int (nI (6 * m)))]) (st' := [.int (nI 2), .int (nI (6 * m)), .retAddr 1000, .int (X.2 ((6 * m) + 1)), .ref 23, .int x1]) (h' := h) (fun _ => rfl) ?_
  refine rt_add rfl ?_
  refine rt_sal rfl (by omega) hX ?_
  refine rt_cvH rfl (by decide) c23 rfl rfl rfl rfl (m_step (d := 999) CM1 (X.2 (6 * m + 1)) (X.2 (6 * m + 2))) ?_
  rintro v2 q2
  obtain rfl := stpP_u CM.2.2.2.2.2.2.2.choose_spec.choose_spec.2.2.1 q1 q2
  refine rt_jeq rfl (fun _ => ?_) (fun z => absurd z ((fun q => q rfl)))
  exact k h ⟨ad, T, I, J, nx, D, K, made, st, CK, CM, IV, sb, by omega, by omega, by omega, by omega⟩
set_option maxRecDepth 8192 in
theorem lw_c11 (B : both h m) (hm : m < 512) (hX : X.1 ≤ 3072) (hi : 6 * m + 6 ≤ X.1) (k : ∀ h', both h' (m + 1) → rt_ X 1000 208 463 [some (.retAddr 1000), some (.ref 0), some (.ref 23), some (.int (nI (6 * m)))] [] h' Q) : rt_ X 1000 208 401 [some (.retAddr 1000), some (.ref 0), some (.ref 23), some (.int (nI (6 * m)))] [] h Q := by
  obtain ⟨ad, T, I, J, nx, D, K, made, st, CK, CM, IV, sb, n1, n2, r1, r2⟩ := B
  have hK1 := CM.2.2.2.2.2.2.1.choose_spec.2.1
  obtain ⟨g, hg⟩ := gt_ex (show K.length - 1 < K.length by omega)
  have hgK := List.mem_of_getElem? hg
  have wl2 := wl_ln T
  have k0 : h[0]? = some (.inr (0, [.ref 1, .ref 3, .ref 4, .ref 6, .ref 9, .ref 14])) := CK.2.1
  refine rt_k (k := 1) (pc' := 402) (L' := [some (.retAddr 1000), some (.ref 0), some (.ref 23), some (.int (nI (6 * m)))]) (st' := [.ref 0]) (h' := h) (fun _ => rfl) ?_
  refine rt_cv rfl (by decide) k0 rfl rfl rfl rfl (kp_owner (d := 996) CK hg) ?_
  rintro v1 h1 ⟨g1, CK1, q1⟩
  obtain ⟨x1, rfl⟩ : ∃ x : Int32, v1 = some (.int x) := by rcases q1 with ⟨_, _, _, (⟨j, e, _, _, _, rfl⟩ | ⟨_, rfl⟩)⟩ | ⟨_, rfl⟩ <;> exact ⟨_, rfl⟩
  have CM1 := CM.gk (gr_mo g1 tA_cA (Nat.le_refl _) (Nat.le_refl _))
  obtain ⟨-, ⟨nw, pa, nc, bc, kn, c23, -⟩, -⟩ := id CM1
  refine rt_k (k := 1) (pc' := 406) (L' := [some (.retAddr 1000), some (.ref 0), some (.ref 23), some (.int (nI (6 * m)))]) (st' := [.ref 23, .int x1]) (h' := h1) (fun _ => rfl) ?_
  refine rt_cv rfl (by decide) c23 rfl rfl rfl rfl (m_owner (d := 993) CM1 hg) ?_
  rintro v2 h2 ⟨g2, CM2, q2⟩
  obtain rfl := s_owner IV hgK q1 q2
  have CK2 := CK1.gm g2
  refine rt_jeq rfl (fun _ => ?_) (fun z => absurd z ((fun q => q rfl)))
  exact k h2 ⟨ad, [], I, J, nx, D, K, made, st, CK2, CM2, IV, sb, by omega, by omega, by have u1 := g1.2.1; have u2 := g1.2.2.1; have u3 := g2.2.1; have u4 := g2.2.2.1; unfold mcl at u3; rw [List.length_nil]; omega, by have u1 := g1.2.1; have u2 := g1.2.2.1; have u3 := g2.2.1; have u4 := g2.2.2.1; unfold msl at u4; rw [List.length_nil]; omega⟩
set_option maxRecDepth 8192 in
theorem lw_c12 (B : both h m) (hm : m < 512) (hX : X.1 ≤ 3072) (hi : 6 * m + 6 ≤ X.1) (k : ∀ h', both h' (m + 1) → rt_ X 1000 208 463 [some (.retAddr 1000), some (.ref 0), some (.ref 23), some (.int (nI (6 * m)))] [] h' Q) : rt_ X 1000 208 414 [some (.retAddr 1000), some (.ref 0), some (.ref 23), some (.int (nI (6 * m)))] [] h Q := by
  obtain ⟨ad, T, I, J, nx, D, K, made, st, CK, CM, IV, sb, n1, n2, r1, r2⟩ := B
  have hK1 := CM.2.2.2.2.2.2.1.choose_spec.2.1
  obtain ⟨g, hg⟩ := gt_ex (show K.length - 1 < K.length by omega)
  have hgK := List.mem_of_getElem? hg
  have wl2 := wl_ln T
  have k0 : h[0]? = some (.inr (0, [.ref 1, .ref 3, .ref 4, .ref 6, .ref 9, .ref 14])) := CK.2.1
  refine rt_k (k := 1) (pc' := 415) (L' := [some (.retAddr 1000), some (.ref 0), some (.ref 23), some (.int (nI (6 * m)))]) (st' := [.ref 0]) (h' := h) (fun _ => rfl) ?_
  refine rt_cv rfl (by decide) k0 rfl rfl rfl rfl (kp_compare (d := 994) CK) ?_
  rintro v1 h1 ⟨g1, CK1, q1⟩
  obtain ⟨x1, rfl⟩ : ∃ x : Int32, v1 = some (.int x) := by rcases q1 with ⟨_, _, _, _, _, _, _, rfl⟩ | ⟨_, rfl⟩ <;> exact ⟨_, rfl⟩
  have CM1 := CM.gk (gr_mo g1 tA_cA (Nat.le_refl _) (Nat.le_refl _))
  obtain ⟨-, ⟨nw, pa, nc, bc, kn, c23, -⟩, -⟩ := id CM1
  refine rt_k (k := 1) (pc' := 419) (L' := [some (.retAddr 1000), some (.ref 0), some (.ref 23), some (.int (nI (6 * m)))]) (st' := [.ref 23, .int x1]) (h' := h1) (fun _ => rfl) ?_
  refine rt_cv rfl (by decide) c23 rfl rfl rfl rfl (m_compare (d := 991) CM1) ?_
  rintro v2 h2 ⟨g2, CM2, q2⟩
  obtain rfl := cmP_u q1 q2
  have CK2 := CK1.gm g2
  refine rt_jeq rfl (fun _ => ?_) (fun z => absurd z ((fun q => q rfl)))
  exact k h2 ⟨ad, [], I, J, nx, D, K, made, st, CK2, CM2, IV, sb, by omega, by omega, by have u1 := g1.2.1; have u2 := g1.2.2.1; have u3 := g2.2.1; have u4 := g2.2.2.1; unfold mcl at u3; rw [List.length_nil]; omega, by have u1 := g1.2.1; have u2 := g1.2.2.1; have u3 := g2.2.1; have u4 := g2.2.2.1; unfold msl at u4; rw [List.length_nil]; omega⟩
set_option maxRecDepth 8192 in
theorem lw_c13 (B : both h m) (hm : m < 512) (hX : X.1 ≤ 3072) (hi : 6 * m + 6 ≤ X.1) (k : ∀ h', both h' (m + 1) → rt_ X 1000 208 463 [some (.retAddr 1000), some (.ref 0), some (.ref 23), some (.int (nI (6 * m)))] [] h' Q) : rt_ X 1000 208 427 [some (.retAddr 1000), some (.ref 0), some (.ref 23), some (.int (nI (6 * m)))] [] h Q := by
  obtain ⟨ad, T, I, J, nx, D, K, made, st, CK, CM, IV, sb, n1, n2, r1, r2⟩ := B
  have hK1 := CM.2.2.2.2.2.2.1.choose_spec.2.1
  obtain ⟨g, hg⟩ := gt_ex (show K.length - 1 < K.length by omega)
  have hgK := List.mem_of_getElem? hg
  have wl2 := wl_ln T
  have k0 : h[0]? = some (.inr (0, [.ref 1, .ref 3, .ref 4, .ref 6, .ref 9, .ref 14])) := CK.2.1
  refine rt_k (k := 1) (pc' := 428) (L' := [some (.retAddr 1000), some (.ref 0), some (.ref 23), some (.int (nI (6 * m)))]) (st' := [.ref 0]) (h' := h) (fun _ => rfl) ?_
  refine rt_cv rfl (by decide) k0 rfl rfl rfl rfl (kp_match (d := 991) CK) ?_
  rintro v1 h1 ⟨g1, CK1, q1⟩
  obtain ⟨x1, rfl⟩ : ∃ x : Int32, v1 = some (.int x) := by rcases q1 with ⟨_, _, _, _, _, _, _, rfl⟩ | ⟨_, rfl⟩ <;> exact ⟨_, rfl⟩
  have CM1 := CM.gk (gr_mo g1 tA_cA (Nat.le_refl _) (Nat.le_refl _))
  obtain ⟨-, ⟨nw, pa, nc, bc, kn, c23, -⟩, -⟩ := id CM1
  refine rt_k (k := 1) (pc' := 432) (L' := [some (.retAddr 1000), some (.ref 0), some (.ref 23), some (.int (nI (6 * m)))]) (st' := [.ref 23, .int x1]) (h' := h1) (fun _ => rfl) ?_
  refine rt_cv rfl (by decide) c23 rfl rfl rfl rfl (m_match (d := 989) CM1) ?_
  rintro v2 h2 ⟨g2, CM2, q2⟩
  obtain rfl := mtP_u q1 q2
  have CK2 := CK1.gm g2
  refine rt_jeq rfl (fun _ => ?_) (fun z => absurd z ((fun q => q rfl)))
  exact k h2 ⟨ad, [], I, J, nx, D, K, made, st, CK2, CM2, IV, sb, by omega, by omega, by have u1 := g1.2.1; have u2 := g1.2.2.1; have u3 := g2.2.1; have u4 := g2.2.2.1; unfold mcl at u3; rw [List.length_nil]; omega, by have u1 := g1.2.1; have u2 := g1.2.2.1; have u3 := g2.2.1; have u4 := g2.2.2.1; unfold msl at u4; rw [List.length_nil]; omega⟩
set_option maxRecDepth 8192 in
theorem lw_c14 (B : both h m) (hm : m < 512) (hX : X.1 ≤ 3072) (hi : 6 * m + 6 ≤ X.1) (k : ∀ h', both h' (m + 1) → rt_ X 1000 208 463 [some (.retAddr 1000), some (.ref 0), some (.ref 23), some (.int (nI (6 * m)))] [] h' Q) : rt_ X 1000 208 440 [some (.retAddr 1000), some (.ref 0), some (.ref 23), some (.int (nI (6 * m)))] [] h Q := by
  obtain ⟨ad, T, I, J, nx, D, K, made, st, CK, CM, IV, sb, n1, n2, r1, r2⟩ := B
  have hK1 := CM.2.2.2.2.2.2.1.choose_spec.2.1
  obtain ⟨g, hg⟩ := gt_ex (show K.length - 1 < K.length by omega)
  have hgK := List.mem_of_getElem? hg
  have wl2 := wl_ln T
  have k0 : h[0]? = some (.inr (0, [.ref 1, .ref 3, .ref 4, .ref 6, .ref 9, .ref 14])) := CK.2.1
  refine rt_k (k := 4) (pc' := 444) (L' := [some (.retAddr 1000), some (.ref 0), some (.ref 23), some (.int (nI (6 * m)))]) (st' := [.int (nI 1), .int (nI (6 * m)), .retAddr 1000, .ref 0]) (h' := h) (fun _ => rfl) ?_
  refine rt_add rfl ?_
  refine rt_sal rfl (by omega) hX ?_
  refine rt_cvH rfl (by decide) k0 rfl rfl rfl rfl (kp_count (d := 997) k0 CK.2.2.1.1 CK.2.2.2.1 CK.2.2.2.2.1 CK.2.2.2.2.2.2 hg (X.2 (6 * m + 1))) ?_
  rintro v1 q1
  obtain ⟨x1, rfl⟩ : ∃ x : Int32, v1 = some (.int x) := by rcases q1 with ⟨_, rfl⟩ | ⟨_, rfl⟩ | ⟨_, rfl⟩ | ⟨_, rfl⟩ | ⟨_, rfl⟩ | ⟨_, rfl⟩ | ⟨_, rfl⟩ <;> exact ⟨_, rfl⟩
  have CM1 := CM
  obtain ⟨-, ⟨nw, pa, nc, bc, kn, c23, -⟩, -⟩ := id CM1
  refine rt_k (k := 4) (pc' := 453) (L' := [some (.retAddr 1000), some (.ref 0), some (.ref 23), some (.int (nI (6 * m)))]) (st' := [.int (nI 1), .int (nI (6 * m)), .retAddr 1000, .ref 23, .int x1]) (h' := h) (fun _ => rfl) ?_
  refine rt_add rfl ?_
  refine rt_sal rfl (by omega) hX ?_
  refine rt_cvH rfl (by decide) c23 rfl rfl rfl rfl (m_count (d := 998) CM1 hg (X.2 (6 * m + 1))) ?_
  rintro v2 q2
  rw [← IV.pm.length_eq] at q2
  obtain rfl := cntP_u q1 q2
  refine rt_jeq rfl (fun _ => ?_) (fun z => absurd z ((fun q => q rfl)))
  exact k h ⟨ad, T, I, J, nx, D, K, made, st, CK, CM, IV, sb, by omega, by omega, by omega, by omega⟩
theorem kk_inst2 {d : Nat} {T : List Nat} {I : List kL} {nx : Nat} {D : kD} {K : List kG} {made : Nat} {st : kS} {g : kG} (C : kKp h T I nx D K made st) (h8 : nbn I I.length ≤ 8) (U : uniN I) (H8 : ∀ h so fo, sL h I D so fo → so → crd fo I.length ≤ 8) (hm : made < 600) (hg : K[K.length - 1]? = some g) (hw cu : Int32) : rt_ X (d + 21) 72 0 [some (.ref 0), some (.int hw), some (.int cu), none] [] h (fun v h' => gr cA 5 40 h h' ∧ ∃ K' made' st', kKp h' T I nx D K' made' st' ∧ ((¬ (hw = 0 ∨ hw = 1) ∧ v = some (.int (-1)) ∧ K' = K ∧ made' = made ∧ st' = st) ∨ ((hw = 0 ∨ hw = 1) ∧ insP I D K made st g hw cu v K' made' st'))) := by
  refine rt_w (kk_install C h8 U H8 hm hg hw cu) ?_
  rintro v h' (⟨a, b, rfl, rfl⟩ | ⟨a, G, K', m', s', CK, q⟩)
  · exact ⟨gr_mo gr_rf (fun _ q => q) (by omega) (by omega), K, made, st, C, Or.inl ⟨fun q => q.elim a b, rfl, rfl, rfl, rfl⟩⟩
  · exact ⟨G, K', m', s', CK, Or.inr ⟨a, q⟩⟩
theorem mm_inst2 {d : Nat} {ad : Nat → Nat} {T : List Nat} {I J : List kL} {nx : Nat} {D : kD} {K : List kG} {made : Nat} {st : kS} {g : kG} (C : mKp h ad T J nx D K made st) (IV : inv I J nx D K) (hg : K[K.length - 1]? = some g) (hw cu : Int32) : rt_ X (d + 21) 167 0 [some (.ref 23), some (.int hw), some (.int cu), none, none, none, none, none, none] [] h (fun v h' => gr mB 6 99 h h' ∧ ∃ K' made' st', mKp h' ad T J nx D K' made' st' ∧ ((¬ (hw = 0 ∨ hw = 1) ∧ v = some (.int (-1)) ∧ K' = K ∧ made' = made ∧ st' = st) ∨ ((hw = 0 ∨ hw = 1) ∧ inR J D K made st g hw cu v K' made' st'))) := by
  have hgK := List.mem_of_getElem? hg
  refine rt_w (m_install C hg IV.j8 IV.okJ IV.ju (IV.okg hgK) (IV.hds hgK) hw cu) ?_
  rintro v h' (⟨a, b, rfl, rfl⟩ | ⟨a, G, K', m', s', CK, q⟩)
  · exact ⟨gr_mo gr_rf (fun _ q => q) (by omega) (by omega), K, made, st, C, Or.inl ⟨fun q => q.elim a b, rfl, rfl, rfl, rfl⟩⟩
  · exact ⟨G, K', m', s', CK, Or.inr ⟨a, q⟩⟩
set_option maxRecDepth 8192 in
theorem lw_c6 (B : both h m) (hm : m < 512) (hX : X.1 ≤ 3072) (hi : 6 * m + 6 ≤ X.1) (k : ∀ h', both h' (m + 1) → rt_ X 1000 208 463 [some (.retAddr 1000), some (.ref 0), some (.ref 23), some (.int (nI (6 * m)))] [] h' Q) : rt_ X 1000 208 256 [some (.retAddr 1000), some (.ref 0), some (.ref 23), some (.int (nI (6 * m)))] [] h Q := by
  obtain ⟨ad, T, I, J, nx, D, K, made, st, CK, CM, IV, sb, n1, n2, r1, r2⟩ := B
  have hK1 := CM.2.2.2.2.2.2.1.choose_spec.2.1
  obtain ⟨g, hg⟩ := gt_ex (show K.length - 1 < K.length by omega)
  have hgK := List.mem_of_getElem? hg
  have wl2 := wl_ln T
  have k0 : h[0]? = some (.inr (0, [.ref 1, .ref 3, .ref 4, .ref 6, .ref 9, .ref 14])) := CK.2.1
  refine rt_k (k := 4) (pc' := 260) (L' := [some (.retAddr 1000), some (.ref 0), some (.ref 23), some (.int (nI (6 * m)))]) (st' := [.int (nI 1), .int (nI (6 * m)), .retAddr 1000, .ref 0]) (h' := h) (fun _ => rfl) ?_
  refine rt_add rfl ?_
  refine rt_sal rfl (by omega) hX ?_
  refine rt_k (k := 3) (pc' := 265) (L' := [some (.retAddr 1000), some (.ref 0), some (.ref 23), some (.int (nI (6 * m)))]) (st' := [.int (nI 2), .int (nI (6 * m)), .retAddr 1000, .int (X.2 ((6 * m) + 1)), .ref 0]) (h' := h) (fun _ => rfl) ?_
  refine rt_add rfl ?_
  refine rt_sal rfl (by omega) hX ?_
  refine rt_cv rfl (by decide) k0 rfl rfl rfl rfl (kk_inst2 (d := 978) CK IV.n8 IV.un IV.H8 (by omega) hg (X.2 (6 * m + 1)) (X.2 (6 * m + 2))) ?_
  rintro v1 h1 ⟨g1, K1, made1, st1, CK1, q1⟩
  obtain ⟨x1, rfl⟩ : ∃ x : Int32, v1 = some (.int x) := by rcases q1 with ⟨_, rfl, _⟩ | ⟨_, _, _, _, _, _, _, _, _, _, (⟨_, _, rfl, _⟩ | ⟨_, _, (⟨_, rfl, _⟩ | ⟨_, _, rfl, _⟩ | ⟨_, _, rfl, _⟩)⟩)⟩ <;> exact ⟨_, rfl⟩
  have CM1 := CM.gk g1
  obtain ⟨-, ⟨nw, pa, nc, bc, kn, c23, -⟩, -⟩ := id CM1
  refine rt_k (k := 4) (pc' := 274) (L' := [some (.retAddr 1000), some (.ref 0), some (.ref 23), some (.int (nI (6 * m)))]) (st' := [.int (nI 1), .int (nI (6 * m)), .retAddr 1000, .ref 23, .int x1]) (h' := h1) (fun _ => rfl) ?_
  refine rt_add rfl ?_
  refine rt_sal rfl (by omega) hX ?_
  refine rt_k (k := 3) (pc' := 279) (L' := [some (.retAddr 1000), some (.ref 0), some (.ref 23), some (.int (nI (6 * m)))]) (st' := [.int (nI 2), .int (nI (6 * m)), .retAddr 1000, .int (X.2 ((6 * m) + 1)), .ref 23, .int x1]) (h' := h1) (fun _ => rfl) ?_
  refine rt_add rfl ?_
  refine rt_sal rfl (by omega) hX ?_
  refine rt_cv rfl (by decide) c23 rfl rfl rfl rfl (mm_inst2 (d := 978) CM1 IV hg (X.2 (6 * m + 1)) (X.2 (6 * m + 2))) ?_
  rintro v2 h2 ⟨g2, K2, made2, st2, CM2, q2⟩
  have CK2 := CK1.gm g2
  have fin : v2 = some (.int x1) ∧ K2 = K1 ∧ made2 = made1 ∧ st2 = st1 ∧ inv I J nx D K1 ∧ made1 ≤ made + 1 ∧ ∀ e ∈ st1, e.1 < nx := by
    rcases q1 with ⟨a, e, rfl, rfl, rfl⟩ | ⟨a, q1⟩
    · rcases q2 with ⟨_, e2, rfl, rfl, rfl⟩ | ⟨b, _⟩
      · exact ⟨e2.trans e.symm, rfl, rfl, rfl, IV, by omega, sb⟩
      · exact absurd b a
    · rcases q2 with ⟨b, _⟩ | ⟨_, q2⟩
      · exact absurd a b
      · obtain ⟨e1, e2, e3, e4, IV2⟩ := s_inst IV hgK q1 q2
        refine ⟨e1, e2, e3, e4, IV2, ?_, ?_⟩
        · rcases q2 with ⟨_, _, _, _, y, _⟩ | ⟨S, _, (⟨_, _, _, y, _⟩ | ⟨_, _, _, _, y, _⟩ | ⟨_, _, _, _, y, _⟩)⟩ <;> omega
        · intro x hx
          rcases q2 with ⟨_, _, _, _, _, y⟩ | ⟨S, _, (⟨_, _, _, _, y⟩ | ⟨_, _, _, _, _, y⟩ | ⟨_, _, _, yK, _, y⟩)⟩
          · rw [← e4, y] at hx; exact sb x hx
          · rw [← e4, y] at hx; exact sb x hx
          · rw [← e4, y] at hx; exact sb x hx
          · rw [← e4, y] at hx
            obtain ⟨e, he, ee⟩ := wkS_in hx
            rw [ee]
            rcases he with he | he
            · exact ((IV.gk g hgK).e he).2
            · have hin : arr S ∈ K1 := by rw [← e2, yK]; unfold kPut; exact List.mem_append.mpr (Or.inr (List.mem_singleton.mpr rfl))
              exact ((IV2.gk _ hin).e he).2
  obtain ⟨rfl, rfl, rfl, rfl, IV2, hm1, sb2⟩ := fin
  refine rt_jeq rfl (fun _ => ?_) (fun z => absurd z ((fun q => q rfl)))
  exact k h2 ⟨ad, T, I, J, nx, D, K2, made2, st2, CK2, CM2, IV2, sb2, by omega, by omega, by have u1 := g1.2.1; have u2 := g1.2.2.1; have u3 := g2.2.1; have u4 := g2.2.2.1; omega, by have u1 := g1.2.1; have u2 := g1.2.2.1; have u3 := g2.2.1; have u4 := g2.2.2.1; omega⟩
end LC

