/-! THE KEEPER: the best set as a generation; whether one is still valid. -/
def pk0 (h : List va_E) : Prop := h[0]? = some (.inr (0, [.ref 1, .ref 3, .ref 4, .ref 6, .ref 9, .ref 14]))
noncomputable def pkL (I : List kL) (fo : Nat → Prop) : Nat → List kL
  | 0 => []
  | i + 1 => pkL I fo i ++ @ite (List kL) (fo i) (Classical.propDecidable _) (match I[i]? with | some r => [r] | none => []) []
theorem pkL_t {I : List kL} {fo : Nat → Prop} {i : Nat} {r : kL} (hr : I[i]? = some r) (h : fo i) : pkL I fo (i + 1) = pkL I fo i ++ [r] := by rw [pkL, if_pos h, hr]
theorem pkL_f {I : List kL} {fo : Nat → Prop} {i : Nat} (h : ¬ fo i) : pkL I fo (i + 1) = pkL I fo i := by rw [pkL, if_neg h, List.append_nil]
theorem pkL_len {I : List kL} {fo : Nat → Prop} : ∀ i, i ≤ I.length → (pkL I fo i).length = crd fo i
  | 0, _ => rfl
  | i + 1, h => by
    obtain ⟨r, hr⟩ := gt_ex (l := I) (i := i) (by omega)
    by_cases q : fo i
    · rw [pkL_t hr q, crd_t q, List.length_append, pkL_len i (by omega)]; rfl
    · rw [pkL_f q, crd_f q, pkL_len i (by omega)]
theorem pkL_eq {I : List kL} {fo : Nat → Prop} {i n : Nat} (hi : i ≤ n) (h : crd fo n ≤ crd fo i) : pkL I fo n = pkL I fo i := by
  induction hi with
  | refl => rfl
  | step hm ih =>
    rename_i m
    have := crd_mo (p := fo) hm
    by_cases q : fo m
    · rw [crd_t q] at h; exact absurd h (by omega)
    · rw [crd_f q] at h
      rw [pkL_f q]; exact ih h
theorem rtT {M : Nat} {p : Prop} (h0 : ab_rt M (some (.int 0)) = true) (h1 : ab_rt M (some (.int 1)) = true) : ab_rt M (some (.int (tB p))) = true := by
  by_cases q : p
  · rw [tB_t q]; exact h1
  · rw [tB_f q]; exact h0
theorem rtB {M : Nat} {b : Bool} (h0 : ab_rt M (some (.int 0)) = true) (h1 : ab_rt M (some (.int 1)) = true) : ab_rt M (some (.int (bI b))) = true := by
  cases b
  · exact h0
  · exact h1
section KP
variable {X : Nat × (Nat → Int32)} {d : Nat} {h : List va_E} {Q : Option Value → List va_E → Prop} {I : List kL} {nx : Nat}
theorem bst_1 {h0 : List va_E} {fo : Nat → Prop} {sa : Nat} (hsa : h0.length ≤ sa) (h8 : crd fo I.length ≤ 8) (K0 : pk0 h0) (CI : cI h0 I nx) (h39 : 39 ≤ h0.length) (i : Nat) (h : List va_E) (F : Nat → Option Nat) (G : gr (fun _ => False) 1 8 h0 h) (c : h[sa]? = some (.inl (5, 8, .inr (.inr (.inr (.inr F)))))) (hi : i ≤ I.length) (HF : ∀ (j : Nat) r, (pkL I fo i)[j]? = some r → ∃ a, F j = some a ∧ zL h0 a r) (k : ∀ h' F' x, gr (fun _ => False) 1 8 h0 h' → h'[sa]? = some (.inl (5, 8, .inr (.inr (.inr (.inr F'))))) → (∀ (j : Nat) r, (pkL I fo I.length)[j]? = some r → ∃ a, F' j = some a ∧ zL h0 a r) → rt_ X (d + 1) 98 79 [some (.ref 0), some (.int (msk fo)), some (.ref sa), some (.int (nI (pkL I fo I.length).length)), x] [] h' Q) : rt_ X (d + 1) 98 31 [some (.ref 0), some (.int (msk fo)), some (.ref sa), some (.int (nI (pkL I fo i).length)), some (.int (nI i))] [] h Q := by
  obtain ⟨F0, d4, d5, hn, -, HI⟩ := id CI
  have E := gr_ex G (fun _ _ => id)
  have k0 := gr_at G K0 id
  have k4 := gr_at G d4 id
  have k5 := gr_at G d5 id
  have hcr := crd_le fo i
  have hle := crd_mo (p := fo) hi
  have hpl := pkL_len (fo := fo) i hi
  refine rt_k (k := 2) (pc' := 34) (L' := [some (.ref 0), some (.int (msk fo)), some (.ref sa), some (.int (nI ((pkL I fo i).length))), some (.int (nI i))]) (st' := [.ref 0, .int (nI i)]) (h' := h) (fun _ => rfl) ?_
  refine rt_gf rfl k0 rfl rfl ?_
  refine rt_cvE (v := some (.int (nI I.length))) (h' := h) rfl (by decide) k4 rfl rfl rfl rfl ?_ ?_
  · refine rt_k (k := 1) (pc' := 1) (L' := [some (.ref 4)]) (st' := [.ref 4]) (h' := h) (fun _ => rfl) ?_
    refine rt_gf rfl k4 rfl rfl ?_
    exact rt_r (v := some (.int (nI I.length))) rfl rfl ⟨rfl, rfl⟩
  refine rt_ige rfl (by omega) (by omega) (fun z => ?_) (fun z => ?_)
  ·
    have e : i = I.length := by omega
    subst e
    exact k h F _ G c HF
  refine rt_k (k := 2) (pc' := 45) (L' := [some (.ref 0), some (.int (msk fo)), some (.ref sa), some (.int (nI ((pkL I fo i).length))), some (.int (nI i))]) (st' := [.ref sa, .int (nI ((pkL I fo i).length))]) (h' := h) (fun _ => rfl) ?_
  refine rt_aln rfl c (by decide) ?_
  refine rt_ige rfl (by omega) (by decide) (fun z2 => ?_) (fun z2 => ?_)
  ·
    have e : pkL I fo I.length = pkL I fo i := pkL_eq hi (by omega)
    rw [e] at k
    exact k h F _ G c HF
  obtain ⟨r, hr⟩ := gt_ex z
  obtain ⟨a, fa, za⟩ := HI i r hr
  have za' := za.ex E
  obtain ⟨v, nd, bk, ps, ca, -⟩ := za'.at
  refine rt_k (k := 2) (pc' := 52) (L' := [some (.ref 0), some (.int (msk fo)), some (.ref sa), some (.int (nI ((pkL I fo i).length))), some (.int (nI i))]) (st' := [.int (nI i), .int (msk fo)]) (h' := h) (fun _ => rfl) ?_
  refine rt_cE rfl rfl (isin (by omega) fo) ?_
  refine rt_pe rfl (fun z3 => ?_) (fun z3 => ?_)
  ·
    refine rt_inc (c := 1) rfl rfl ?_
    refine rt_k (k := 1) (pc' := 31) (L' := [some (.ref 0), some (.int (msk fo)), some (.ref sa), some (.int (nI ((pkL I fo i).length))), some (.int (nI (i + 1)))]) (st' := []) (h' := h) (fun _ => rfl) ?_
    rw [← pkL_f (I := I) z3] at HF ⊢
    exact bst_1 hsa h8 K0 CI h39 (i + 1) h F G c z HF k
  refine rt_k (k := 3) (pc' := 61) (L' := [some (.ref 0), some (.int (msk fo)), some (.ref sa), some (.int (nI ((pkL I fo i).length))), some (.int (nI i))]) (st' := [.ref 0, .int (nI ((pkL I fo i).length)), .ref sa]) (h' := h) (fun _ => rfl) ?_
  refine rt_gf rfl k0 rfl rfl ?_
  refine rt_k (k := 1) (pc' := 66) (L' := [some (.ref 0), some (.int (msk fo)), some (.ref sa), some (.int (nI ((pkL I fo i).length))), some (.int (nI i))]) (st' := [.int (nI i), .ref 4, .int (nI ((pkL I fo i).length)), .ref sa]) (h' := h) (fun _ => rfl) ?_
  refine rt_cvE (v := some (.ref a)) (h' := h) rfl (by decide) k4 rfl rfl rfl rfl ?_ ?_
  · refine rt_k (k := 1) (pc' := 1) (L' := [some (.ref 4), some (.int (nI i))]) (st' := [.ref 4]) (h' := h) (fun _ => rfl) ?_
    refine rt_gf rfl k4 rfl rfl ?_
    refine rt_k (k := 1) (pc' := 5) (L' := [some (.ref 4), some (.int (nI i))]) (st' := [.int (nI i), .ref 5]) (h' := h) (fun _ => rfl) ?_
    refine rt_aalN rfl k5 rfl (by omega) (by decide) fa ?_
    exact rt_r (v := some (.ref a)) rfl rfl ⟨rfl, rfl⟩
  refine rt_aasN rfl c ca ⟨rfl, rfl⟩ (by omega) (by decide) ?_
  have f_1 : fr_ (fun z => z = sa) h (h.set sa (.inl (5, 8, .inr (.inr (.inr (.inr (va_up F ((pkL I fo i).length) (some a)))))))) := fr_set (e' := .inl (5, 8, .inr (.inr (.inr (.inr (va_up F ((pkL I fo i).length) (some a))))))) c (by rfl) (by first | decide | simp)
  have c_2 := hs_ne (a := sa) (e' := .inl (5, 8, .inr (.inr (.inr (.inr (va_up F ((pkL I fo i).length) (some a))))))) k0 (by omega)
  have c_3 := hs_ne (a := sa) (e' := .inl (5, 8, .inr (.inr (.inr (.inr (va_up F ((pkL I fo i).length) (some a))))))) k4 (by omega)
  have c_4 := hs_ne (a := sa) (e' := .inl (5, 8, .inr (.inr (.inr (.inr (va_up F ((pkL I fo i).length) (some a))))))) k5 (by omega)
  have c_5 := hs_ne (a := sa) (e' := .inl (5, 8, .inr (.inr (.inr (.inr (va_up F ((pkL I fo i).length) (some a))))))) ca (fun q => by subst q; rw [c] at ca; cases ca)
  have c_6 := hs_self (e' := .inl (5, 8, .inr (.inr (.inr (.inr (va_up F ((pkL I fo i).length) (some a))))))) c
  refine rt_inc (c := 1) rfl rfl ?_
  refine rt_inc (c := 1) rfl rfl ?_
  refine rt_k (k := 1) (pc' := 31) (L' := [some (.ref 0), some (.int (msk fo)), some (.ref sa), some (.int (nI (((pkL I fo i).length) + 1))), some (.int (nI (i + 1)))]) (st' := []) (h' := (h.set sa (.inl (5, 8, .inr (.inr (.inr (.inr (va_up F ((pkL I fo i).length) (some a))))))))) (fun _ => rfl) ?_
  have e1 : (pkL I fo i).length + 1 = (pkL I fo (i + 1)).length := by rw [pkL_t hr z3]; simp
  rw [e1]
  refine bst_1 hsa h8 K0 CI h39 (i + 1) _ _ ⟨?_, ?_, ?_, fun q hq _ => ?_⟩ c_6 z (fun j r' hj => ?_) k
  · rw [f_1.1]; exact G.1
  · rw [f_1.1]; exact G.2.1
  · rw [f_1.2.1]; exact G.2.2.1
  · rw [f_1.2.2 q (by omega)]; exact G.2.2.2 q hq id
  · rw [pkL_t hr z3] at hj
    rcases gt_snoc hj with q | ⟨q1, q2⟩
    · have := gt_lt q
      rw [va_up_ne _ _ (by omega)]; exact HF j r' q
    · subst q1; subst q2; rw [va_up_self]; exact ⟨a, rfl, za⟩
termination_by I.length - i
/-- the best set as a generation, nothing if there is none -/
theorem bst_gen {so : Prop} {fo : Nat → Prop} {G0 r0 o0 l0 e0 : Int32} (K0 : pk0 h) (h39 : 39 ≤ h.length) (CI : cI h I nx) (c9 : h[9]? = some (.inr (5, [.ref 4, .ref 6, .ref 10, .ref 11, .int G0, .ref 12, .ref 13, .int r0, .int o0, .int l0, .int e0, .int (tB so), .int (msk fo)]))) (h8 : crd fo I.length ≤ 8) : rt_ X (d + 5) 98 0 [some (.ref 0), none, none, none, none] [] h (fun v h' => (¬ so ∧ v = some .null ∧ h' = h) ∨ (so ∧ ∃ a, v = some (.ref a) ∧ gr (fun _ => False) 5 40 h h' ∧ zG h' a (arr (pkL I fo I.length)))) := by
  obtain ⟨F0, d4, d5, hn, -, HI⟩ := id CI
  have hpl := pkL_len (fo := fo) I.length (Nat.le_refl _)
  refine rt_k (k := 1) (pc' := 1) (L' := [some (.ref 0), none, none, none, none]) (st' := [.ref 0]) (h' := h) (fun _ => rfl) ?_
  refine rt_gf rfl K0 rfl rfl ?_
  refine rt_cvE (v := some (.int (tB so))) (h' := h) rfl (by decide) c9 rfl rfl rfl rfl ?_ ?_
  · refine rt_k (k := 1) (pc' := 1) (L' := [some (.ref 9)]) (st' := [.ref 9]) (h' := h) (fun _ => rfl) ?_
    refine rt_gf rfl c9 rfl rfl ?_
    exact rt_r (v := some (.int (tB so))) rfl (rtT rfl rfl) ⟨rfl, rfl⟩
  refine rt_pn rfl (fun z => ?_) (fun z => ?_)
  rotate_left
  ·
    refine rt_k (k := 1) (pc' := 11) (L' := [some (.ref 0), none, none, none, none]) (st' := [.null]) (h' := h) (fun _ => rfl) ?_
    exact rt_r (v := some (.null)) rfl rfl (Or.inl ⟨z, rfl, rfl⟩)
  refine rt_k (k := 1) (pc' := 13) (L' := [some (.ref 0), none, none, none, none]) (st' := [.ref 0]) (h' := h) (fun _ => rfl) ?_
  refine rt_gf rfl K0 rfl rfl ?_
  refine rt_cvE (v := some (.int (msk fo))) (h' := h) rfl (by decide) c9 rfl rfl rfl rfl ?_ ?_
  · refine rt_k (k := 1) (pc' := 1) (L' := [some (.ref 9)]) (st' := [.ref 9]) (h' := h) (fun _ => rfl) ?_
    refine rt_gf rfl c9 rfl rfl ?_
    exact rt_r (v := some (.int (msk fo))) rfl rfl ⟨rfl, rfl⟩
  refine rt_k (k := 2) (pc' := 22) (L' := [some (.ref 0), some (.int (msk fo)), none, none, none]) (st' := [.int (nI 8)]) (h' := h) (fun _ => rfl) ?_
  refine rt_k (k := 1) (pc' := 25) (L' := [some (.ref 0), some (.int (msk fo)), none, none, none]) (st' := [.ref h.length]) (h' := (h ++ [.inl (5, 8, .inr (.inr (.inr (.inr (fun _ => none)))))])) (fun _ => rfl) ?_
  refine rt_nm (fun h_7 e_8 => ?_)
  have g_9 : gr (fun _ => False) 1 (8) h h_7 := by rw [e_8]; exact gr_mo (gr_tr (gr_rf (h := h)) (gr_app (.inl (5, 8, .inr (.inr (.inr (.inr (fun _ => none)))))))) (fun _ q => q) (by first | exact Nat.le_refl _ | omega) (by first | exact Nat.le_refl _ | (simp only [ab_z]; omega))
  have n_10 : h_7.length = h.length + 1 := by rw [e_8]; simp
  have c_11 : h_7[0]? = some (.inr (0, [.ref 1, .ref 3, .ref 4, .ref 6, .ref 9, .ref 14])) := by rw [e_8]; exact ha_old _ K0
  have c_12 : h_7[9]? = some (.inr (5, [.ref 4, .ref 6, .ref 10, .ref 11, .int G0, .ref 12, .ref 13, .int r0, .int o0, .int l0, .int e0, .int (tB so), .int (msk fo)])) := by rw [e_8]; exact ha_old _ c9
  have c_13 : h_7[h.length]? = some (.inl (5, 8, .inr (.inr (.inr (.inr (fun _ => none)))))) := by rw [e_8]; exact ha_new
  refine rt_k (k := 3) (pc' := 28) (L' := [some (.ref 0), some (.int (msk fo)), some (.ref h.length), some (.int (nI 0)), none]) (st' := []) (h' := h_7) (fun _ => rfl) ?_
  have g1 := g_9
  have cs := c_13
  generalize h_7 = h1 at *
  refine rt_k (k := 2) (pc' := 31) (L' := [some (.ref 0), some (.int (msk fo)), some (.ref h.length), some (.int (nI ((pkL I fo 0).length))), some (.int (nI 0))]) (st' := []) (h' := h1) (fun _ => rfl) ?_
  refine bst_1 (sa := h.length) (Nat.le_refl _) h8 K0 CI h39 0 h1 _ g1 cs (Nat.zero_le _) (fun j r hj => by cases hj) (fun h2 F2 x g2 c2 HF2 => ?_)
  have E2 := gr_ex g2 (fun _ _ => id)
  have HS : sAr h2 h.length 8 (pkL I fo I.length) := ⟨F2, ⟨by unfold zz; omega, c2⟩, by omega, by omega, fun i r hr => by obtain ⟨a, fa, za⟩ := HF2 i r hr; exact ⟨a, fa, za.ex E2⟩⟩
  have l2 := g2.1
  refine rt_k (k := 1) (pc' := 82) (L' := [some (.ref 0), some (.int (msk fo)), some (.ref h.length), some (.int (nI ((pkL I fo I.length).length))), x]) (st' := [.ref h2.length]) (h' := (h2 ++ [.inr (7, [.null, .null, .int (nI 0)])])) (fun _ => rfl) ?_
  refine rt_nm (fun h_14 e_15 => ?_)
  have g_16 : gr (fun _ => False) 1 (3) h2 h_14 := by rw [e_15]; exact gr_mo (gr_tr (gr_rf (h := h2)) (gr_app (.inr (7, [.null, .null, .int (nI 0)])))) (fun _ q => q) (by first | exact Nat.le_refl _ | omega) (by first | exact Nat.le_refl _ | (simp only [ab_z]; omega))
  have n_17 : h_14.length = h2.length + 1 := by rw [e_15]; simp
  have c_18 : h_14[h2.length]? = some (.inr (7, [.null, .null, .int (nI 0)])) := by rw [e_15]; exact ha_new
  refine rt_k (k := 3) (pc' := 85) (L' := [some (.ref 0), some (.int (msk fo)), some (.ref h.length), some (.int (nI ((pkL I fo I.length).length))), x]) (st' := [.int (nI ((pkL I fo I.length).length)), .ref h.length, .ref h2.length, .ref h2.length]) (h' := h_14) (fun _ => rfl) ?_
  have g3 := g_16
  have cg := c_18
  have l3 : h_14.length = h2.length + 1 := by omega
  refine rt_c rfl rfl (gen_new (by omega) HS g3 l3 cg) ?_
  rintro _ h4 ⟨rfl, g4, Z4⟩
  refine rt_r (v := some (.ref h2.length)) rfl rfl (Or.inr ⟨z, h2.length, rfl, gr_mo (gr_tr g2 g4) (fun _ q => q) (by omega) (by omega), Z4⟩)
def stP (I : List kL) (g : kG) (p : Nat) : Prop := ∃ e ∈ g, ∃ r, I[p]? = some r ∧ nI (lNo r) = nI (lNo e.1)
def allIn (I : List kL) (g : kG) : Prop := ∀ e ∈ g, ∃ r ∈ I, nI (lNo r) = nI (lNo e.1)
def uniN (I : List kL) : Prop := ∀ (p q : Nat) r s, I[p]? = some r → I[q]? = some s → nI (lNo r) = nI (lNo s) → p = q
theorem stv_1 {a G : Nat} {g : kG} {mem : Nat → Nat → Prop} {gn : Nat → Int64} {riv ned : Nat → Nat → Prop} {rg op : Nat → Prop} {li le so : Prop} {fo : Nat → Prop} (K0 : pk0 h) (CI : cI h I nx) (U : uniN I) (C : sR h I.length G mem gn riv ned rg op li le so fo) (Z : zG h a g) (i : Nat) (hi : i ≤ g.length) (acc : Nat → Prop) (ha : ∀ p, acc p ↔ stP I (g.take i) p) (H : allIn I (g.take i)) (x : Option Value) : rt_ X (d + 5) 94 4 [some (.ref 0), some (.ref a), some (.int (msk acc)), some (.int (nI i)), x] [] h (fun v h' => v = some (.int (tB (allIn I g ∧ isV I.length G mem riv ned rg op li (stP I g)))) ∧ h' = h) := by
  obtain ⟨F0, d4, d5, hn, -, HI⟩ := id CI
  obtain ⟨M, N, R, E, nx', c9, -⟩ := id C
  obtain ⟨od, ci, F, S, ⟨-, c1⟩, ⟨-, c2⟩, ⟨-, c3⟩, hg, HG⟩ := id Z
  refine rt_k (k := 2) (pc' := 6) (L' := [some (.ref 0), some (.ref a), some (.int (msk acc)), some (.int (nI i)), x]) (st' := [.ref a, .int (nI i)]) (h' := h) (fun _ => rfl) ?_
  refine rt_cvE (v := some (.int (nI g.length))) (h' := h) rfl (by decide) c1 rfl rfl rfl rfl ?_ ?_
  · refine rt_k (k := 1) (pc' := 1) (L' := [some (.ref a)]) (st' := [.ref a]) (h' := h) (fun _ => rfl) ?_
    refine rt_gf rfl c1 rfl rfl ?_
    exact rt_r (v := some (.int (nI g.length))) rfl rfl ⟨rfl, rfl⟩
  refine rt_ige rfl (by omega) (by omega) (fun z => ?_) (fun z => ?_)
  ·
    rw [List.take_of_length_le z] at ha H
    have e : acc = stP I g := funext fun p => propext (ha p)
    subst e
    refine rt_k (k := 1) (pc' := 50) (L' := [some (.ref 0), some (.ref a), some (.int (msk (stP I g))), some (.int (nI i)), x]) (st' := [.ref 0]) (h' := h) (fun _ => rfl) ?_
    refine rt_gf rfl K0 rfl rfl ?_
    refine rt_k (k := 1) (pc' := 54) (L' := [some (.ref 0), some (.ref a), some (.int (msk (stP I g))), some (.int (nI i)), x]) (st' := [.int (msk (stP I g)), .ref 9]) (h' := h) (fun _ => rfl) ?_
    refine rt_cvE rfl (by decide) c9 rfl rfl rfl rfl (so_isValid C (stP I g)) ?_
    exact rt_r (v := some (.int (tB (isV I.length G mem riv ned rg op li (stP I g))))) rfl (rtT rfl rfl) (⟨congrArg (fun z => some (Value.int z)) (tB_iff (Iff.intro (fun w => And.intro H w) (fun w => w.2))), rfl⟩)
  obtain ⟨e, he⟩ := gt_ex z
  obtain ⟨-, b, fb, zb⟩ := HG i e he
  obtain ⟨v, nd, bk, ps, cb, -⟩ := zb.at
  refine rt_k (k := 1) (pc' := 13) (L' := [some (.ref 0), some (.ref a), some (.int (msk acc)), some (.int (nI i)), x]) (st' := [.ref 0]) (h' := h) (fun _ => rfl) ?_
  refine rt_gf rfl K0 rfl rfl ?_
  refine rt_k (k := 2) (pc' := 18) (L' := [some (.ref 0), some (.ref a), some (.int (msk acc)), some (.int (nI i)), x]) (st' := [.int (nI i), .ref a, .ref 4]) (h' := h) (fun _ => rfl) ?_
  refine rt_cvE (v := some (.ref b)) (h' := h) rfl (by decide) c1 rfl rfl rfl rfl ?_ ?_
  · refine rt_k (k := 1) (pc' := 1) (L' := [some (.ref a), some (.int (nI i))]) (st' := [.ref a]) (h' := h) (fun _ => rfl) ?_
    refine rt_gf rfl c1 rfl rfl ?_
    refine rt_k (k := 1) (pc' := 5) (L' := [some (.ref a), some (.int (nI i))]) (st' := [.int (nI i), .ref od]) (h' := h) (fun _ => rfl) ?_
    refine rt_aalN rfl c2 rfl (by omega) (by omega) fb ?_
    exact rt_r (v := some (.ref b)) rfl rfl ⟨rfl, rfl⟩
  refine rt_gf rfl cb rfl rfl ?_
  refine rt_cvH rfl (by decide) d4 rfl rfl rfl rfl (ix_place CI (nI (lNo e.1))) ?_
  rintro _ (⟨p, r, hr, hx, rfl⟩ | ⟨hno, rfl⟩)
  ·
    have hp := gt_lt hr
    refine rt_k (k := 1) (pc' := 29) (L' := [some (.ref 0), some (.ref a), some (.int (msk acc)), some (.int (nI i)), some (.int (nI p))]) (st' := []) (h' := h) (fun _ => by cases x <;> rfl) ?_
    refine rt_k (k := 1) (pc' := 31) (L' := [some (.ref 0), some (.ref a), some (.int (msk acc)), some (.int (nI i)), some (.int (nI p))]) (st' := [.int (nI p)]) (h' := h) (fun _ => rfl) ?_
    refine rt_zge rfl (by omega) ?_
    refine rt_k (k := 3) (pc' := 40) (L' := [some (.ref 0), some (.ref a), some (.int (msk acc)), some (.int (nI i)), some (.int (nI p))]) (st' := [.int (nI p), .int (nI 1), .int (msk acc)]) (h' := h) (fun _ => rfl) ?_
    refine rt_mbit rfl (by omega) ?_
    refine rt_mor rfl ?_
    refine rt_k (k := 1) (pc' := 43) (L' := [some (.ref 0), some (.ref a), some (.int (msk (fun ι => acc ι ∨ (ι = p)))), some (.int (nI i)), some (.int (nI p))]) (st' := []) (h' := h) (fun _ => rfl) ?_
    refine rt_inc (c := 1) rfl rfl ?_
    refine rt_k (k := 1) (pc' := 4) (L' := [some (.ref 0), some (.ref a), some (.int (msk (fun ι => acc ι ∨ (ι = p)))), some (.int (nI (i + 1))), some (.int (nI p))]) (st' := []) (h' := h) (fun _ => rfl) ?_
    refine stv_1 K0 CI U C Z (i + 1) z _ (fun q => ?_) (fun e' he' => ?_) _
    · show acc q ∨ q = p ↔ _
      rw [ha q]
      constructor
      · rintro (⟨e', h1, h2⟩ | rfl)
        · exact ⟨e', (mem_ts he).mpr (Or.inl h1), h2⟩
        · exact ⟨e, (mem_ts he).mpr (Or.inr rfl), r, hr, hx⟩
      · rintro ⟨e', h1, r', h2, h3⟩
        rcases (mem_ts he).mp h1 with h1 | h1
        · exact Or.inl ⟨e', h1, r', h2, h3⟩
        · subst h1; exact Or.inr (U q p r' r h2 hr (h3.trans hx.symm))
    · rcases (mem_ts he).mp he' with h1 | h1
      · exact H e' h1
      · subst h1; exact ⟨r, gt_in hr, hx⟩
  refine rt_k (k := 4) (pc' := 35) (L' := [some (.ref 0), some (.ref a), some (.int (msk acc)), some (.int (nI i)), some (.int (-1))]) (st' := [.int 0]) (h' := h) (fun _ => by cases x <;> rfl) ?_
  refine rt_r (v := some (.int 0)) rfl rfl ⟨(ret0 (fun w => ?_)), rfl⟩
  obtain ⟨r, h1, h2⟩ := w.1 e (gt_in he)
  exact hno r h1 h2
termination_by g.length - i
theorem stv {a G : Nat} {g : kG} {mem : Nat → Nat → Prop} {gn : Nat → Int64} {riv ned : Nat → Nat → Prop} {rg op : Nat → Prop} {li le so : Prop} {fo : Nat → Prop} (K0 : pk0 h) (CI : cI h I nx) (U : uniN I) (C : sR h I.length G mem gn riv ned rg op li le so fo) (Z : zG h a g) : rt_ X (d + 5) 94 0 [some (.ref 0), some (.ref a), none, none, none] [] h (fun v h' => v = some (.int (tB (allIn I g ∧ isV I.length G mem riv ned rg op li (stP I g)))) ∧ h' = h) := by
  refine rt_k (k := 4) (pc' := 4) (L' := [some (.ref 0), some (.ref a), some (.int (msk (fun _ => False))), some (.int (nI 0)), none]) (st' := []) (h' := h) (fun _ => by rw [msk_0]; rfl) ?_
  exact stv_1 K0 CI U C Z 0 (Nat.zero_le _) _ (fun p => ⟨fun w => absurd w id, fun w => by obtain ⟨e, h1, -⟩ := w; cases h1⟩) (fun e he => by cases he) _
end KP

