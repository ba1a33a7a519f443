/-! THE REFERENCE, 24: its names. -/
theorem i32_nle {x : Int32} (a : ¬ x ≤ 0) : 0 < x := by
  rw [Int32.le_iff_toInt_le] at a
  rw [Int32.lt_iff_toInt_lt]
  omega
theorem i32_le {x : Int32} (a : x ≤ 0) (b : 0 < x) : False := by
  rw [Int32.le_iff_toInt_le] at a
  rw [Int32.lt_iff_toInt_lt] at b
  omega
theorem i32_ge {x : Int32} (a : 0 ≤ x) (b : x < 0) : False := by
  rw [Int32.le_iff_toInt_le] at a
  rw [Int32.lt_iff_toInt_lt] at b
  omega
theorem i32_ng {x : Int32} (a : ¬ 0 ≤ x) : x < 0 := by
  rw [Int32.le_iff_toInt_le] at a
  rw [Int32.lt_iff_toInt_lt]
  omega
theorem i32_as {x : Int32} (a : 0 < x) (b : x < 0) : False := by
  rw [Int32.lt_iff_toInt_lt] at a b
  omega
def shu (F : Nat → Option Nat) (k n : Nat) : Nat → Option Nat := fun j => if k < j ∧ j ≤ n then F (j - 1) else F j
theorem shu_0 (F : Nat → Option Nat) (n : Nat) : shu F n n = F := by
  funext j
  unfold shu
  rw [if_neg (by omega)]
theorem shu_s (F : Nat → Option Nat) {k n : Nat} (hk : 0 < k) (hn : k ≤ n) : va_up (shu F k n) k (F (k - 1)) = shu F (k - 1) n := by
  funext j
  unfold va_up shu
  by_cases q : j = k
  · subst q; rw [if_pos rfl, if_pos ⟨by omega, by omega⟩]
  · rw [if_neg q]
    by_cases y : k < j ∧ j ≤ n
    · rw [if_pos y, if_pos ⟨by omega, by omega⟩]
    · rw [if_neg y, if_neg (fun z => y ⟨by omega, z.2⟩)]
theorem yL.nm {h : List va_E} {a : Nat} {r : kL} (Y : yL h a r) : ∃ nm fs, z_ h a (.inr (14, .int (nI (lNo r)) :: .ref nm :: fs)) ∧ sS h nm (lNm r) := by
  obtain ⟨nm, ve, nd, nr, bk, br, ow, NF, RF, BF, QF, OF, c, -, -, -, -, -, -, s, -⟩ := Y
  exact ⟨nm, _, c, s⟩
theorem nmS_s {J : List kL} {N : List kW} {i : Nat} {r : kL} (hr : J[i]? = some r) (C : nmS (J.take i) N) (h : lNm r ∈ N) : nmS (J.take (i + 1)) N := by
  refine ⟨C.1, fun w => ?_⟩
  rw [take_sn hr]
  constructor
  · intro q
    obtain ⟨s, a, b⟩ := (C.2 w).mp q
    exact ⟨s, List.mem_append.mpr (Or.inl a), b⟩
  · rintro ⟨s, a, b⟩
    rcases List.mem_append.mp a with q | q
    · exact (C.2 w).mpr ⟨s, q, b⟩
    · rw [List.mem_singleton] at q
      rw [← b, q]
      exact h
theorem nmS_i {J : List kL} {N : List kW} {i p : Nat} {r : kL} (hr : J[i]? = some r) (C : nmS (J.take i) N) (h1 : ∀ (j : Nat) u, j < p → N[j]? = some u → nmI u < nmI (lNm r)) (h2 : ∀ (j : Nat) u, p ≤ j → N[j]? = some u → nmI (lNm r) < nmI u) : nmS (J.take (i + 1)) (N.take p ++ lNm r :: N.drop p) := by
  have mm : ∀ w, w ∈ N.take p ++ lNm r :: N.drop p ↔ w = lNm r ∨ w ∈ N := fun w => by
    have : w ∈ N ↔ w ∈ N.take p ∨ w ∈ N.drop p := by rw [← List.mem_append, List.take_append_drop]
    rw [List.mem_append, List.mem_cons, this]
    constructor
    · rintro (a | a | a)
      · exact Or.inr (Or.inl a)
      · exact Or.inl a
      · exact Or.inr (Or.inr a)
    · rintro (a | a | a)
      · exact Or.inr (Or.inl a)
      · exact Or.inl a
      · exact Or.inr (Or.inr a)
  refine ⟨?_, fun w => ?_⟩
  · have h0 := C.1
    rw [← List.take_append_drop p N, List.pairwise_append] at h0
    rw [List.pairwise_append, List.pairwise_cons]
    have bef : ∀ s ∈ N.take p, nmI s < nmI (lNm r) := fun s hs => by
      obtain ⟨j, hj⟩ := gt_mem hs
      have hjp : j < p := by have := gt_lt hj; rw [List.length_take] at this; omega
      rw [List.getElem?_take, if_pos hjp] at hj
      exact h1 j s hjp hj
    refine ⟨h0.1, ⟨fun s hs => ?_, h0.2.1⟩, fun s hs t ht => ?_⟩
    · obtain ⟨j, hj⟩ := gt_mem hs
      rw [List.getElem?_drop] at hj
      exact h2 (p + j) s (by omega) hj
    · rcases List.mem_cons.mp ht with q | q
      · subst q; exact bef s hs
      · exact h0.2.2 s hs t q
  · rw [mm w, take_sn hr]
    constructor
    · rintro (q | q)
      · exact ⟨r, List.mem_append.mpr (Or.inr (List.mem_singleton.mpr rfl)), q.symm⟩
      · obtain ⟨s, a, b⟩ := (C.2 w).mp q
        exact ⟨s, List.mem_append.mpr (Or.inl a), b⟩
    · rintro ⟨s, a, b⟩
      rcases List.mem_append.mp a with q | q
      · exact Or.inr ((C.2 w).mpr ⟨s, q, b⟩)
      · rw [List.mem_singleton] at q
        rw [← b, q]
        exact Or.inl rfl
theorem mWf_i {h : List va_E} {F : Nat → Option Nat} {N : List kW} {p a : Nat} {w : kW} (C : mWf h F N) (hp : p ≤ N.length) (S : sS h a w) : mWf h (va_up (shu F p N.length) p (some a)) (N.take p ++ w :: N.drop p) := fun i u hu => by
  unfold va_up shu
  rcases Nat.lt_trichotomy i p with q | q | q
  · rw [if_neg (by omega), if_neg (by omega)]
    rw [List.getElem?_append_left (by rw [List.length_take]; omega), List.getElem?_take, if_pos q] at hu
    exact C i u hu
  · subst q
    rw [if_pos rfl]
    rw [List.getElem?_append_right (by rw [List.length_take]; omega), List.length_take, show i - min i N.length = 0 by omega] at hu
    cases hu
    exact ⟨a, rfl, S⟩
  · rw [List.getElem?_append_right (by rw [List.length_take]; omega), List.length_take, show i - min p N.length = (i - p - 1) + 1 by omega, List.getElem?_cons_succ, List.getElem?_drop, show p + (i - p - 1) = i - 1 by omega] at hu
    have := gt_lt hu
    rw [if_neg (by omega), if_pos ⟨q, by omega⟩]
    exact C (i - 1) u hu
section MX
variable {X : Nat × (Nat → Int32)} {d : Nat} {h : List va_E} {Q : Option Value → List va_E → Prop} {ad : Nat → Nat} {J : List kL} {D : kD} {x y z md kc gn sp nc bc kn : Int32}
/-- the place of a name among the names -/
theorem m_ln1 {F : Nat → Option Nat} {N : List kW} {na : Nat} {w : kW} (c23 : h[23]? = some (mo x y z (mq (nI J.length) md (nI D.length) kc gn sp (nI N.length) bc kn))) (c32 : h[32]? = some (.inl (9, 8, .inr (.inr (.inr (.inr F)))))) (hN : N.length ≤ 8) (hF : mWf h F N) (sm : ∀ u ∈ N, smW u) (S : sS h na w) (sw : smW w) (i : Nat) (x4 : Option Value) (k : ∀ p, p ≤ N.length → (∀ (j : Nat) u, j < p → N[j]? = some u → nmI u < nmI w) → (∀ u, N[p]? = some u → ¬ nmI u < nmI w) → rt_ X (d + 5) 150 54 [some (.ref 23), some (.int (nI i)), some (.ref na), some (.int (nI p)), x4] [] h Q) (p : Nat) (hp : p ≤ N.length) (H : ∀ (j : Nat) u, j < p → N[j]? = some u → nmI u < nmI w) : rt_ X (d + 5) 150 27 [some (.ref 23), some (.int (nI i)), some (.ref na), some (.int (nI p)), x4] [] h Q := by
  refine rt_k (k := 2) (pc' := 29) (L' := [some (.ref 23), some (.int (nI i)), some (.ref na), some (.int (nI p)), x4]) (st' := [.ref 23, .int (nI p)]) (h' := h) (fun _ => by first | rfl | (cases x4 <;> rfl)) ?_
  refine rt_gf rfl c23 rfl rfl ?_
  refine rt_ige rfl (by omega) (by omega) (fun z0 => ?_) (fun z0 => ?_)
  ·
    exact k p hp H (fun u hu => by have := gt_lt hu; omega)
  obtain ⟨u, hu⟩ := gt_ex z0
  obtain ⟨ua, f1, Su⟩ := hF p u hu
  refine rt_k (k := 1) (pc' := 36) (L' := [some (.ref 23), some (.int (nI i)), some (.ref na), some (.int (nI p)), x4]) (st' := [.ref 23]) (h' := h) (fun _ => by first | rfl | (cases x4 <;> rfl)) ?_
  refine rt_gf rfl c23 rfl rfl ?_
  refine rt_k (k := 1) (pc' := 40) (L' := [some (.ref 23), some (.int (nI i)), some (.ref na), some (.int (nI p)), x4]) (st' := [.int (nI p), .ref 32]) (h' := h) (fun _ => by first | rfl | (cases x4 <;> rfl)) ?_
  refine rt_aalN rfl c32 rfl (by omega) (by decide) f1 ?_
  refine rt_k (k := 1) (pc' := 42) (L' := [some (.ref 23), some (.int (nI i)), some (.ref na), some (.int (nI p)), x4]) (st' := [.ref na, .ref ua]) (h' := h) (fun _ => by first | rfl | (cases x4 <;> rfl)) ?_
  refine rt_cH rfl rfl (m_alphabet Su S (sm u (List.mem_of_getElem? hu)) sw) ?_
  rintro _ ⟨x0, rfl, sx⟩
  refine rt_qge rfl (fun z1 => ?_) (fun z1 => ?_)
  ·
    refine k p hp H (fun u' hu' q => ?_)
    rw [hu] at hu'
    cases hu'
    rcases sx with ⟨_, s⟩ | ⟨s, _⟩ | ⟨s, _⟩
    · exact i32_ge z1 s
    · rw [s] at q; exact absurd q (by rw [Int64.lt_iff_toInt_lt]; omega)
    · rw [Int64.lt_iff_toInt_lt] at q s; omega
  refine rt_inc (c := 1) rfl rfl ?_
  refine rt_k (k := 1) (pc' := 27) (L' := [some (.ref 23), some (.int (nI i)), some (.ref na), some (.int (nI (p + 1))), x4]) (st' := []) (h' := h) (fun _ => by first | rfl | (cases x4 <;> rfl)) ?_
  refine m_ln1 c23 c32 hN hF sm S sw i x4 k (p + 1) z0 (fun j u' hj hu' => ?_)
  by_cases q : j = p
  · subst q
    rw [hu] at hu'
    cases hu'
    rcases sx with ⟨s, _⟩ | ⟨_, s⟩ | ⟨_, s⟩
    · exact s
    · rw [s] at z1; exact absurd z1 (by decide)
    · exact absurd (i32_ng z1) (fun y => i32_as s y)
  · exact H j u' (by omega) hu'
termination_by N.length - p
/-- the names behind a place move down -/
theorem m_ln2 {F : Nat → Option Nat} {N : List kW} {na : Nat} {i : Nat} (hN : N.length < 8) (p : Nat) (m : Nat) (hm : p ≤ m ∧ m ≤ N.length) (h : List va_E) (c23 : h[23]? = some (mo x y z (mq (nI J.length) md (nI D.length) kc gn sp (nI N.length) bc kn))) (c32 : h[32]? = some (.inl (9, 8, .inr (.inr (.inr (.inr (shu F m N.length))))))) (hF : mWf h F N) (k : ∀ h', fr_ (fun z => z = 32) h h' → h'[32]? = some (.inl (9, 8, .inr (.inr (.inr (.inr (shu F p N.length)))))) → rt_ X (d + 5) 150 122 [some (.ref 23), some (.int (nI i)), some (.ref na), some (.int (nI p)), some (.int (nI p))] [] h' Q) : rt_ X (d + 5) 150 94 [some (.ref 23), some (.int (nI i)), some (.ref na), some (.int (nI p)), some (.int (nI m))] [] h Q := by
  refine rt_k (k := 2) (pc' := 97) (L' := [some (.ref 23), some (.int (nI i)), some (.ref na), some (.int (nI p)), some (.int (nI m))]) (st' := [.int (nI p), .int (nI m)]) (h' := h) (fun _ => rfl) ?_
  refine rt_ile rfl (by omega) (by omega) (fun z0 => ?_) (fun z0 => ?_)
  ·
    have e : m = p := by omega
    subst e
    exact k h fr_rf c32
  obtain ⟨u, hu⟩ := gt_ex (show m - 1 < N.length by omega)
  obtain ⟨ua, f1, Su⟩ := hF (m - 1) u hu
  obtain ⟨uv, ux, uy, uc, -, -⟩ := Su.at
  have f2 : shu F m N.length (m - 1) = some ua := by unfold shu; rw [if_neg (by omega)]; exact f1
  refine rt_k (k := 1) (pc' := 101) (L' := [some (.ref 23), some (.int (nI i)), some (.ref na), some (.int (nI p)), some (.int (nI m))]) (st' := [.ref 23]) (h' := h) (fun _ => rfl) ?_
  refine rt_gf rfl c23 rfl rfl ?_
  refine rt_k (k := 2) (pc' := 107) (L' := [some (.ref 23), some (.int (nI i)), some (.ref na), some (.int (nI p)), some (.int (nI m))]) (st' := [.ref 23, .int (nI m), .ref 32]) (h' := h) (fun _ => rfl) ?_
  refine rt_gf rfl c23 rfl rfl ?_
  refine rt_k (k := 2) (pc' := 113) (L' := [some (.ref 23), some (.int (nI i)), some (.ref na), some (.int (nI p)), some (.int (nI m))]) (st' := [.int (nI 1), .int (nI m), .ref 32, .int (nI m), .ref 32]) (h' := h) (fun _ => rfl) ?_
  refine rt_sub rfl (by omega) ?_
  refine rt_aalN rfl c32 rfl (by omega) (by decide) f2 ?_
  refine rt_aasN rfl c32 uc ⟨rfl, rfl⟩ (by omega) (by decide) ?_
  refine rt_nm (fun h_1 e_2 => ?_)
  have f_3 : fr_ (fun z => z = 32) h h_1 := by rw [e_2]; exact fr_set (e' := .inl (9, 8, .inr (.inr (.inr (.inr (va_up (shu F m N.length) m (some ua))))))) c32 (by rfl) (by first | decide | simp)
  have n_4 : h_1.length = h.length := by rw [e_2]; simp
  have c_5 : h_1[23]? = some (.inr (12, [.ref 24, .int x, .ref 25, .int y, .int z, .ref 26, .int (nI J.length), .int md, .ref 27, .ref 28, .int (nI D.length), .ref 29, .int kc, .int gn, .ref 30, .ref 31, .int sp, .ref 32, .int (nI N.length), .ref 33, .ref 34, .int bc, .int kn, .ref 35])) := by rw [e_2]; exact hs_ne c23 (by decide)
  have c_6 : h_1[32]? = some (.inl (9, 8, .inr (.inr (.inr (.inr (va_up (shu F m N.length) m (some ua))))))) := by rw [e_2]; exact hs_self c32
  have c_7 : h_1[ua]? = some (.inr (17, [.ref uv, .int (nI 0), .int ux, .int uy])) := by rw [e_2]; exact hs_ne uc (hc_ne c32 uc (by intro q; cases q))
  refine rt_dec rfl (by omega) rfl ?_
  refine rt_k (k := 1) (pc' := 94) (L' := [some (.ref 23), some (.int (nI i)), some (.ref na), some (.int (nI p)), some (.int (nI (m - 1)))]) (st' := []) (h' := h_1) (fun _ => rfl) ?_
  have FF := f_3
  have k3 := c_5
  have k2 := c_6
  rw [← f1, shu_s F (show 0 < m by omega) hm.2] at k2
  exact m_ln2 hN p (m - 1) (by omega) _ k3 k2 (hF.ex (fr_ex FF (fun k q => by unfold zz at q; omega))) (fun h' F' => k h' (fr_tr FF F'))
termination_by m
def lnP (h0 : List va_E) (ad : Nat → Nat) (J : List kL) (x y z ct md rt kc gn sp bc kn : Int32) (v : Option Value) (h' : List va_E) : Prop := v = none ∧ fr_ (fun z => z = 23 ∨ z = 32) h0 h' ∧ ∃ (N : List kW) (F : Nat → Option Nat), nmS J N ∧ N.length ≤ 8 ∧ h'[23]? = some (mo x y z (mq ct md rt kc gn sp (nI N.length) bc kn)) ∧ h'[32]? = some (.inl (9, 8, .inr (.inr (.inr (.inr F))))) ∧ mWf h' F N
theorem m_ln0 {h0 : List va_E} (h8 : ∀ i N, nmS (J.take i) N → N.length ≤ 8) (sm : ∀ r ∈ J, smW (lNm r)) (i : Nat) (hi : i ≤ J.length) (h : List va_E) (FR : fr_ (fun z => z = 23 ∨ z = 32) h0 h) (CI : mI h ad J) (F : Nat → Option Nat) (N : List kW) (HN : nmS (J.take i) N) (c23 : h[23]? = some (mo x y z (mq (nI J.length) md (nI D.length) kc gn sp (nI N.length) bc kn))) (c32 : h[32]? = some (.inl (9, 8, .inr (.inr (.inr (.inr F)))))) (hF : mWf h F N) (x2 x3 x4 : Option Value) : rt_ X (d + 5) 150 7 [some (.ref 23), some (.int (nI i)), x2, x3, x4] [] h (lnP h0 ad J x y z (nI J.length) md (nI D.length) kc gn sp bc kn) := by
  obtain ⟨IF, c26, hJ, HI⟩ := id CI
  have hN := h8 i N HN
  refine rt_k (k := 2) (pc' := 9) (L' := [some (.ref 23), some (.int (nI i)), x2, x3, x4]) (st' := [.ref 23, .int (nI i)]) (h' := h) (fun _ => by first | rfl | (cases x2 <;> rfl) | (cases x3 <;> rfl) | (cases x4 <;> rfl)) ?_
  refine rt_gf rfl c23 rfl rfl ?_
  refine rt_ige rfl (by omega) (by omega) (fun z0 => ?_) (fun z0 => ?_)
  ·
    have e : i = J.length := by omega
    subst e
    rw [List.take_length] at HN
    exact rt_r (v := none) rfl rfl (⟨rfl, FR, N, F, HN, hN, c23, c32, hF⟩)
  obtain ⟨r, hr⟩ := gt_ex z0
  obtain ⟨f1, Y⟩ := HI i r hr
  generalize ea : ad (lNo r) = a at f1 Y
  obtain ⟨nm, ve, nd, nr, bk, br, ow, NF, RF, BF, QF, OF, ⟨zr, cr⟩, ⟨-, cnd⟩, ⟨-, cnr⟩, ⟨-, cbk⟩, ⟨-, cbr⟩, ⟨-, cow⟩, hln, Sn, Vn, DN, DB, WO⟩ := id Y
  have smN : ∀ u ∈ N, smW u := fun u hu => by
    obtain ⟨s, a, b⟩ := (HN.2 u).mp hu
    rw [← b]
    exact sm s (List.mem_of_mem_take a)
  have smr := sm r (List.mem_of_getElem? hr)
  refine rt_k (k := 1) (pc' := 16) (L' := [some (.ref 23), some (.int (nI i)), x2, x3, x4]) (st' := [.ref 23]) (h' := h) (fun _ => by first | rfl | (cases x2 <;> rfl) | (cases x3 <;> rfl) | (cases x4 <;> rfl)) ?_
  refine rt_gf rfl c23 rfl rfl ?_
  refine rt_k (k := 1) (pc' := 20) (L' := [some (.ref 23), some (.int (nI i)), x2, x3, x4]) (st' := [.int (nI i), .ref 26]) (h' := h) (fun _ => by first | rfl | (cases x2 <;> rfl) | (cases x3 <;> rfl) | (cases x4 <;> rfl)) ?_
  refine rt_aalN rfl c26 rfl (by omega) (by decide) f1 ?_
  refine rt_gf rfl cr rfl rfl ?_
  refine rt_k (k := 3) (pc' := 27) (L' := [some (.ref 23), some (.int (nI i)), some (.ref nm), some (.int (nI 0)), x4]) (st' := []) (h' := h) (fun _ => by first | rfl | (cases x2 <;> rfl) | (cases x3 <;> rfl) | (cases x4 <;> rfl)) ?_
  refine m_ln1 c23 c32 hN hF smN Sn smr i x4 (fun p hp h1 h2 => ?_) 0 (Nat.zero_le _) (fun j u hj => absurd hj (Nat.not_lt_zero _))
  have again : ∀ (N' : List kW) (F' : Nat → Option Nat) (h' : List va_E) (y4 : Option Value), nmS (J.take (i + 1)) N' → fr_ (fun z => z = 23 ∨ z = 32) h h' → h'[23]? = some (mo x y z (mq (nI J.length) md (nI D.length) kc gn sp (nI N'.length) bc kn)) → h'[32]? = some (.inl (9, 8, .inr (.inr (.inr (.inr F'))))) → mWf h' F' N' → rt_ X (d + 5) 150 139 [some (.ref 23), some (.int (nI i)), some (.ref nm), some (.int (nI p)), y4] [] h' (lnP h0 ad J x y z (nI J.length) md (nI D.length) kc gn sp bc kn) := fun N' F' h' y4 b1 b2 b3 b4 b5 => by
    have E := fr_ex b2 (fun k q => by unfold zz at q; omega)
    refine rt_inc (c := 1) rfl rfl ?_
    refine rt_k (k := 1) (pc' := 7) (L' := [some (.ref 23), some (.int (nI (i + 1))), some (.ref nm), some (.int (nI p)), y4]) (st' := []) (h' := h') (fun _ => by first | rfl | (cases y4 <;> rfl)) ?_
    exact m_ln0 h8 sm (i + 1) z0 h' (fr_tr FR b2) (CI.ex E (b2.2.2 26 (by decide))) F' N' b1 b3 b4 b5 _ _ _
  have new : ¬ lNm r ∈ N → rt_ X (d + 5) 150 78 [some (.ref 23), some (.int (nI i)), some (.ref nm), some (.int (nI p)), x4] [] h (lnP h0 ad J x y z (nI J.length) md (nI D.length) kc gn sp bc kn) := fun hn => by
    have hgt : ∀ (j : Nat) u, p ≤ j → N[j]? = some u → nmI (lNm r) < nmI u := fun j u hj hu => by
      obtain ⟨u0, hu0⟩ := gt_ex (show p < N.length by have := gt_lt hu; omega)
      have n1 := h2 u0 hu0
      have n2 : ¬ nmI u0 = nmI (lNm r) := fun q => hn (by rw [← nmI_inj (smN u0 (List.mem_of_getElem? hu0)) smr q]; exact List.mem_of_getElem? hu0)
      have n3 : nmI (lNm r) < nmI u0 := by
        rw [Int64.lt_iff_toInt_lt] at n1 ⊢
        rw [← Int64.toInt_inj] at n2
        omega
      by_cases q : j = p
      · subst q; rw [hu0] at hu; cases hu; exact n3
      · have := List.pairwise_iff_getElem.mp HN.1 p j (gt_lt hu0) (gt_lt hu) (by omega)
        obtain ⟨_, e1⟩ := List.getElem?_eq_some_iff.mp hu0
        obtain ⟨_, e2⟩ := List.getElem?_eq_some_iff.mp hu
        rw [e1, e2] at this
        rw [Int64.lt_iff_toInt_lt] at *
        omega
    have NS := nmS_i hr HN h1 hgt
    have l8 := h8 (i + 1) _ NS
    have ll : (N.take p ++ lNm r :: N.drop p).length = N.length + 1 := by
      rw [List.length_append, List.length_cons, List.length_take, List.length_drop]; omega
    refine rt_k (k := 1) (pc' := 79) (L' := [some (.ref 23), some (.int (nI i)), some (.ref nm), some (.int (nI p)), x4]) (st' := [.ref 23]) (h' := h) (fun _ => by first | rfl | (cases x4 <;> rfl)) ?_
    refine rt_gf rfl c23 rfl rfl ?_
    refine rt_k (k := 1) (pc' := 84) (L' := [some (.ref 23), some (.int (nI i)), some (.ref nm), some (.int (nI p)), x4]) (st' := [.int (nI 8), .int (nI N.length)]) (h' := h) (fun _ => by first | rfl | (cases x4 <;> rfl)) ?_
    refine rt_ine rfl (by omega) (by decide) (fun _ => ?_) (fun z => absurd z ((by omega)))
    refine rt_k (k := 1) (pc' := 89) (L' := [some (.ref 23), some (.int (nI i)), some (.ref nm), some (.int (nI p)), x4]) (st' := [.ref 23]) (h' := h) (fun _ => by first | rfl | (cases x4 <;> rfl)) ?_
    refine rt_gf rfl c23 rfl rfl ?_
    refine rt_k (k := 1) (pc' := 94) (L' := [some (.ref 23), some (.int (nI i)), some (.ref nm), some (.int (nI p)), some (.int (nI N.length))]) (st' := []) (h' := h) (fun _ => by first | rfl | (cases x4 <;> rfl)) ?_
    have c32' := c32
    rw [← shu_0 F N.length] at c32'
    refine m_ln2 (by omega) p N.length ⟨hp, Nat.le_refl _⟩ h c23 c32' hF (fun h1' F1 d32 => ?_)
    have E1 := fr_ex F1 (fun k q => by unfold zz at q; omega)
    have d23 := fr_at F1 (by decide) c23
    obtain ⟨sv, sx, sy, sc, -, -⟩ := (Sn.ex E1).at
    refine rt_k (k := 1) (pc' := 123) (L' := [some (.ref 23), some (.int (nI i)), some (.ref nm), some (.int (nI p)), some (.int (nI p))]) (st' := [.ref 23]) (h' := h1') (fun _ => rfl) ?_
    refine rt_gf rfl d23 rfl rfl ?_
    refine rt_k (k := 2) (pc' := 128) (L' := [some (.ref 23), some (.int (nI i)), some (.ref nm), some (.int (nI p)), some (.int (nI p))]) (st' := [.ref nm, .int (nI p), .ref 32]) (h' := h1') (fun _ => rfl) ?_
    refine rt_aasN rfl d32 sc ⟨rfl, rfl⟩ (by omega) (by decide) ?_
    refine rt_nm (fun h_8 e_9 => ?_)
    have f_10 : fr_ (fun z => z = 23 ∨ z = 32) h1' h_8 := by rw [e_9]; exact fr_set (e' := .inl (9, 8, .inr (.inr (.inr (.inr (va_up (shu F p N.length) p (some nm))))))) d32 (by rfl) (by first | decide | simp)
    have n_11 : h_8.length = h1'.length := by rw [e_9]; simp
    have c_12 : h_8[23]? = some (.inr (12, [.ref 24, .int x, .ref 25, .int y, .int z, .ref 26, .int (nI J.length), .int md, .ref 27, .ref 28, .int (nI D.length), .ref 29, .int kc, .int gn, .ref 30, .ref 31, .int sp, .ref 32, .int (nI N.length), .ref 33, .ref 34, .int bc, .int kn, .ref 35])) := by rw [e_9]; exact hs_ne d23 (by decide)
    have c_13 : h_8[32]? = some (.inl (9, 8, .inr (.inr (.inr (.inr (va_up (shu F p N.length) p (some nm))))))) := by rw [e_9]; exact hs_self d32
    have c_14 : h_8[nm]? = some (.inr (17, [.ref sv, .int (nI 0), .int sx, .int sy])) := by rw [e_9]; exact hs_ne sc (hc_ne d32 sc (by intro q; cases q))
    refine rt_k (k := 2) (pc' := 131) (L' := [some (.ref 23), some (.int (nI i)), some (.ref nm), some (.int (nI p)), some (.int (nI p))]) (st' := [.ref 23, .ref 23]) (h' := h_8) (fun _ => rfl) ?_
    refine rt_gf rfl c_12 rfl rfl ?_
    refine rt_k (k := 1) (pc' := 135) (L' := [some (.ref 23), some (.int (nI i)), some (.ref nm), some (.int (nI p)), some (.int (nI p))]) (st' := [.int (nI 1), .int (nI N.length), .ref 23]) (h' := h_8) (fun _ => rfl) ?_
    refine rt_add rfl ?_
    refine rt_pf rfl c_12 ⟨rfl, (show 18 < 24 by decide), rfl⟩ ?_
    refine rt_nm (fun h_15 e_16 => ?_)
    have f_17 : fr_ (fun z => z = 23 ∨ z = 32) h1' h_15 := by rw [e_16]; exact fr_tr f_10 (fr_set (e' := .inr (12, [.ref 24, .int x, .ref 25, .int y, .int z, .ref 26, .int (nI J.length), .int md, .ref 27, .ref 28, .int (nI D.length), .ref 29, .int kc, .int gn, .ref 30, .ref 31, .int sp, .ref 32, .int (nI (N.length + 1)), .ref 33, .ref 34, .int bc, .int kn, .ref 35])) c_12 (by rfl) (by first | decide | simp))
    have n_18 : h_15.length = h_8.length := by rw [e_16]; simp
    have c_19 : h_15[23]? = some (.inr (12, [.ref 24, .int x, .ref 25, .int y, .int z, .ref 26, .int (nI J.length), .int md, .ref 27, .ref 28, .int (nI D.length), .ref 29, .int kc, .int gn, .ref 30, .ref 31, .int sp, .ref 32, .int (nI (N.length + 1)), .ref 33, .ref 34, .int bc, .int kn, .ref 35])) := by rw [e_16]; exact hs_self c_12
    have c_20 : h_15[32]? = some (.inl (9, 8, .inr (.inr (.inr (.inr (va_up (shu F p N.length) p (some nm))))))) := by rw [e_16]; exact hs_ne c_13 (by decide)
    have c_21 : h_15[nm]? = some (.inr (17, [.ref sv, .int (nI 0), .int sx, .int sy])) := by rw [e_16]; exact hs_ne c_14 (hc_ne c_12 c_14 (by intro q; cases q))
    have F2 := f_17
    have E2 := fr_ex F2 (fun k q => by unfold zz at q; omega)
    have k3 := c_19
    have k2 := c_20
    rw [← ll] at k3
    exact again _ _ _ _ NS (fr_tr (fr_mo F1 (fun k q => Or.inr q)) F2) k3 k2 (mWf_i ((hF.ex E1).ex E2) hp ((Sn.ex E1).ex E2))
  refine rt_k (k := 2) (pc' := 56) (L' := [some (.ref 23), some (.int (nI i)), some (.ref nm), some (.int (nI p)), x4]) (st' := [.ref 23, .int (nI p)]) (h' := h) (fun _ => by first | rfl | (cases x4 <;> rfl)) ?_
  refine rt_gf rfl c23 rfl rfl ?_
  refine rt_ige rfl (by omega) (by omega) (fun z1 => ?_) (fun z1 => ?_)
  ·
    refine new (fun q => ?_)
    obtain ⟨j, hj⟩ := gt_mem q
    have := h1 j _ (by have := gt_lt hj; omega) hj
    exact absurd this (by rw [Int64.lt_iff_toInt_lt]; omega)
  obtain ⟨u, hu⟩ := gt_ex z1
  obtain ⟨ua, g1, Su⟩ := hF p u hu
  obtain ⟨uv, ux, uy, uc, -, -⟩ := Su.at
  refine rt_k (k := 1) (pc' := 63) (L' := [some (.ref 23), some (.int (nI i)), some (.ref nm), some (.int (nI p)), x4]) (st' := [.ref 23]) (h' := h) (fun _ => by first | rfl | (cases x4 <;> rfl)) ?_
  refine rt_gf rfl c23 rfl rfl ?_
  refine rt_k (k := 1) (pc' := 67) (L' := [some (.ref 23), some (.int (nI i)), some (.ref nm), some (.int (nI p)), x4]) (st' := [.int (nI p), .ref 32]) (h' := h) (fun _ => by first | rfl | (cases x4 <;> rfl)) ?_
  refine rt_aalN rfl c32 rfl (by omega) (by decide) g1 ?_
  refine rt_k (k := 1) (pc' := 69) (L' := [some (.ref 23), some (.int (nI i)), some (.ref nm), some (.int (nI p)), x4]) (st' := [.ref nm, .ref ua]) (h' := h) (fun _ => by first | rfl | (cases x4 <;> rfl)) ?_
  refine rt_cvE rfl (by decide) uc rfl rfl rfl rfl (st_eq Su Sn) ?_
  refine rt_pe rfl (fun z2 => ?_) (fun z2 => ?_)
  ·
    refine new (fun q => ?_)
    obtain ⟨j, hj⟩ := gt_mem q
    rcases Nat.lt_trichotomy j p with y | y | y
    · exact absurd (h1 j _ y hj) (by rw [Int64.lt_iff_toInt_lt]; omega)
    · subst y; rw [hu] at hj; cases hj; exact z2 rfl
    · have := List.pairwise_iff_getElem.mp HN.1 p j z1 (gt_lt hj) y
      obtain ⟨_, e1⟩ := List.getElem?_eq_some_iff.mp hu
      obtain ⟨_, e2⟩ := List.getElem?_eq_some_iff.mp hj
      rw [e1, e2] at this
      exact h2 u hu this
  refine rt_k (k := 1) (pc' := 139) (L' := [some (.ref 23), some (.int (nI i)), some (.ref nm), some (.int (nI p)), x4]) (st' := []) (h' := h) (fun _ => by first | rfl | (cases x4 <;> rfl)) ?_
  exact again N F h x4 (nmS_s hr HN (by rw [← z2]; exact List.mem_of_getElem? hu)) fr_rf c23 c32 hF
termination_by J.length - i
theorem m_listNames (h8 : ∀ i N, nmS (J.take i) N → N.length ≤ 8) (sm : ∀ r ∈ J, smW (lNm r)) (c23 : h[23]? = some (mo x y z (mq (nI J.length) md (nI D.length) kc gn sp nc bc kn))) (F : Nat → Option Nat) (c32 : h[32]? = some (.inl (9, 8, .inr (.inr (.inr (.inr F)))))) (CI : mI h ad J) : rt_ X (d + 5) 150 0 [some (.ref 23), none, none, none, none] [] h (lnP h ad J x y z (nI J.length) md (nI D.length) kc gn sp bc kn) := by
  refine rt_k (k := 2) (pc' := 2) (L' := [some (.ref 23), none, none, none, none]) (st' := [.int (nI 0), .ref 23]) (h' := h) (fun _ => rfl) ?_
  refine rt_pf rfl c23 ⟨rfl, (show 18 < 24 by decide), rfl⟩ ?_
  refine rt_nm (fun h_22 e_23 => ?_)
  have f_24 : fr_ (fun z => z = 23 ∨ z = 32) h h_22 := by rw [e_23]; exact fr_set (e' := .inr (12, [.ref 24, .int x, .ref 25, .int y, .int z, .ref 26, .int (nI J.length), .int md, .ref 27, .ref 28, .int (nI D.length), .ref 29, .int kc, .int gn, .ref 30, .ref 31, .int sp, .ref 32, .int (nI 0), .ref 33, .ref 34, .int bc, .int kn, .ref 35])) c23 (by rfl) (by first | decide | simp)
  have n_25 : h_22.length = h.length := by rw [e_23]; simp
  have c_26 : h_22[23]? = some (.inr (12, [.ref 24, .int x, .ref 25, .int y, .int z, .ref 26, .int (nI J.length), .int md, .ref 27, .ref 28, .int (nI D.length), .ref 29, .int kc, .int gn, .ref 30, .ref 31, .int sp, .ref 32, .int (nI 0), .ref 33, .ref 34, .int bc, .int kn, .ref 35])) := by rw [e_23]; exact hs_self c23
  have c_27 : h_22[32]? = some (.inl (9, 8, .inr (.inr (.inr (.inr F))))) := by rw [e_23]; exact hs_ne c32 (by decide)
  refine rt_k (k := 2) (pc' := 7) (L' := [some (.ref 23), some (.int (nI 0)), none, none, none]) (st' := []) (h' := h_22) (fun _ => rfl) ?_
  have FF := f_24
  have E := fr_ex FF (fun k q => by unfold zz at q; omega)
  exact m_ln0 h8 sm 0 (Nat.zero_le _) _ FF (CI.ex E (FF.2.2 26 (by decide))) F [] ⟨List.Pairwise.nil, fun w => ⟨fun q => (by cases q), fun ⟨r, q, _⟩ => (by cases q)⟩⟩ c_26 c_27 (fun i w q => by simp at q) none none none
end MX

