/-! THE REFERENCE, 31: drop. -/
theorem dpF_s0 {J : List kL} {i : Nat} {r : kL} {w : Int32} (hr : J[i]? = some r) (e : nI (lNo r) = w) : dpF w (J.take (i + 1)) = dpF w (J.take i) := by
  unfold dpF
  rw [take_sn hr, List.filter_append, List.filter_cons_of_neg (by rw [decide_eq_true e]; decide), List.filter_nil, List.append_nil]
theorem dpF_s1 {J : List kL} {i : Nat} {r : kL} {w : Int32} (hr : J[i]? = some r) (e : ¬ nI (lNo r) = w) : dpF w (J.take (i + 1)) = dpF w (J.take i) ++ [r] := by
  unfold dpF
  rw [take_sn hr, List.filter_append, List.filter_cons_of_pos (by rw [decide_eq_false e]; rfl), List.filter_nil]
section NG
variable {X : Nat × (Nat → Int32)} {d : Nat} {h : List va_E} {Q : Option Value → List va_E → Prop} {ad : Nat → Nat} {T : List Nat} {J : List kL} {nx : Nat} {D : kD} {K : List kG} {made : Nat} {st : kS}
variable {nw pa nc bc kn : Int32}
theorem m_dp1 {h0 : List va_E} (w : Int32) (hJ : J.length ≤ 32) (Y0 : ∀ (j : Nat) s, J[j]? = some s → yL h0 (ad (lNo s)) s) (i : Nat) (hi : i ≤ J.length) (h : List va_E) (FR : fr_ (fun z => z = 26) h0 h) (c23 : h[23]? = some (mo (nI T.length) nw pa (mq (nI J.length) (nI nx) (nI D.length) (nI K.length) (nI made) (nI st.length) nc bc kn))) (F : Nat → Option Nat) (c26 : h[26]? = some (.inl (10, 32, .inr (.inr (.inr (.inr F)))))) (H1 : ∀ (j : Nat) s, (dpF w (J.take i))[j]? = some s → F j = some (ad (lNo s))) (H2 : ∀ (j : Nat) s, i ≤ j → J[j]? = some s → F j = some (ad (lNo s))) (b : Int32) (hb : (b = nI 0 ∧ ∀ s ∈ J.take i, ¬ nI (lNo s) = w) ∨ (b = nI 1 ∧ ∃ s ∈ J.take i, nI (lNo s) = w)) (k : ∀ (h' : List va_E) (F : Nat → Option Nat) (b : Int32), fr_ (fun z => z = 26) h0 h' → h'[26]? = some (.inl (10, 32, .inr (.inr (.inr (.inr F))))) → (∀ (j : Nat) s, (dpF w J)[j]? = some s → F j = some (ad (lNo s))) → ((b = nI 0 ∧ ∀ s ∈ J, ¬ nI (lNo s) = w) ∨ (b = nI 1 ∧ ∃ s ∈ J, nI (lNo s) = w)) → rt_ X d 152 57 [some (.ref 23), some (.int w), some (.int (nI (dpF w J).length)), some (.int b), some (.int (nI J.length))] [] h' Q) : rt_ X d 152 7 [some (.ref 23), some (.int w), some (.int (nI (dpF w (J.take i)).length)), some (.int b), some (.int (nI i))] [] h Q := by
  have hl : (dpF w (J.take i)).length ≤ i := by
    have := List.length_filter_le (fun r => !decide (nI (lNo r) = w)) (J.take i)
    rw [List.length_take] at this
    unfold dpF
    omega
  refine rt_k (k := 2) (pc' := 10) (L' := [some (.ref 23), some (.int w), some (.int (nI ((dpF w (J.take i)).length))), some (.int b), some (.int (nI i))]) (st' := [.ref 23, .int (nI i)]) (h' := h) (fun _ => rfl) ?_
  refine rt_gf rfl c23 rfl rfl ?_
  refine rt_ige rfl (by omega) (by omega) (fun z0 => ?_) (fun z0 => ?_)
  ·
    have e : i = J.length := by omega
    subst e
    rw [List.take_length] at H1 hb ⊢
    exact k h F b FR c26 H1 hb
  obtain ⟨r, hr⟩ := gt_ex z0
  have f1 := H2 i r (Nat.le_refl _) hr
  have Yr := (Y0 i r hr).ex (fr_ex FR (fun k q => by unfold zz at q; omega))
  obtain ⟨nm, ve, nd, nr, bk, br, ow, NF, RF, BF, QF, OF, ⟨zr, cr⟩, ⟨-, cnd⟩, ⟨-, cnr⟩, ⟨-, cbk⟩, ⟨-, cbr⟩, ⟨-, cow⟩, hln, Sn, Vn, DN, DB, WO⟩ := id (Yr)
  refine rt_k (k := 1) (pc' := 17) (L' := [some (.ref 23), some (.int w), some (.int (nI ((dpF w (J.take i)).length))), some (.int b), some (.int (nI i))]) (st' := [.ref 23]) (h' := h) (fun _ => rfl) ?_
  refine rt_gf rfl c23 rfl rfl ?_
  refine rt_k (k := 1) (pc' := 22) (L' := [some (.ref 23), some (.int w), some (.int (nI ((dpF w (J.take i)).length))), some (.int b), some (.int (nI i))]) (st' := [.int (nI i), .ref 26]) (h' := h) (fun _ => rfl) ?_
  refine rt_aalN rfl c26 rfl (by omega) (by decide) f1 ?_
  refine rt_gf rfl cr rfl rfl ?_
  refine rt_k (k := 1) (pc' := 27) (L' := [some (.ref 23), some (.int w), some (.int (nI ((dpF w (J.take i)).length))), some (.int b), some (.int (nI i))]) (st' := [.int w, .int (nI (lNo r))]) (h' := h) (fun _ => rfl) ?_
  refine rt_jne rfl (fun z1 => ?_) (fun z1 => ?_)
  rotate_left
  ·
    refine rt_k (k := 3) (pc' := 51) (L' := [some (.ref 23), some (.int w), some (.int (nI ((dpF w (J.take i)).length))), some (.int (nI 1)), some (.int (nI i))]) (st' := []) (h' := h) (fun _ => rfl) ?_
    refine rt_inc (c := 1) rfl rfl ?_
    refine rt_k (k := 1) (pc' := 7) (L' := [some (.ref 23), some (.int w), some (.int (nI ((dpF w (J.take i)).length))), some (.int (nI 1)), some (.int (nI (i + 1)))]) (st' := []) (h' := h) (fun _ => rfl) ?_
    have e1 := dpF_s0 hr z1
    rw [← e1]
    refine m_dp1 w hJ Y0 (i + 1) z0 h FR c23 F c26 (by rw [e1]; exact H1) (fun j s hj => H2 j s (by omega)) (nI 1) (Or.inr ⟨rfl, r, by rw [take_sn hr]; simp, z1⟩) k
  refine rt_k (k := 1) (pc' := 36) (L' := [some (.ref 23), some (.int w), some (.int (nI ((dpF w (J.take i)).length))), some (.int b), some (.int (nI i))]) (st' := [.ref 23]) (h' := h) (fun _ => rfl) ?_
  refine rt_gf rfl c23 rfl rfl ?_
  refine rt_k (k := 2) (pc' := 41) (L' := [some (.ref 23), some (.int w), some (.int (nI ((dpF w (J.take i)).length))), some (.int b), some (.int (nI i))]) (st' := [.ref 23, .int (nI ((dpF w (J.take i)).length)), .ref 26]) (h' := h) (fun _ => rfl) ?_
  refine rt_gf rfl c23 rfl rfl ?_
  refine rt_k (k := 1) (pc' := 46) (L' := [some (.ref 23), some (.int w), some (.int (nI ((dpF w (J.take i)).length))), some (.int b), some (.int (nI i))]) (st' := [.int (nI i), .ref 26, .int (nI ((dpF w (J.take i)).length)), .ref 26]) (h' := h) (fun _ => rfl) ?_
  refine rt_aalN rfl c26 rfl (by omega) (by decide) f1 ?_
  refine rt_aasN rfl c26 cr ⟨rfl, rfl⟩ (by omega) (by decide) ?_
  refine rt_nm (fun h_1 e_2 => ?_)
  have f_3 : fr_ (fun z => z = 26) h h_1 := by rw [e_2]; exact fr_set (e' := .inl (10, 32, .inr (.inr (.inr (.inr (va_up F ((dpF w (J.take i)).length) (some (ad (lNo r))))))))) c26 (by rfl) (by first | decide | simp)
  have n_4 : h_1.length = h.length := by rw [e_2]; simp
  have c_5 : h_1[23]? = some (.inr (12, [.ref 24, .int (nI T.length), .ref 25, .int nw, .int pa, .ref 26, .int (nI J.length), .int (nI nx), .ref 27, .ref 28, .int (nI D.length), .ref 29, .int (nI K.length), .int (nI made), .ref 30, .ref 31, .int (nI st.length), .ref 32, .int nc, .ref 33, .ref 34, .int bc, .int kn, .ref 35])) := by rw [e_2]; exact hs_ne c23 (by decide)
  have c_6 : h_1[26]? = some (.inl (10, 32, .inr (.inr (.inr (.inr (va_up F ((dpF w (J.take i)).length) (some (ad (lNo r))))))))) := by rw [e_2]; exact hs_self c26
  have c_7 : h_1[ad (lNo r)]? = some (.inr (14, [.int (nI (lNo r)), .ref nm, .ref ve, .ref nd, .ref nr, .int (nI ((lNe r).length)), .ref bk, .ref br, .int (nI ((lBr r).length)), .ref ow, .int (nI ((lOw r).length))])) := by rw [e_2]; exact hs_ne cr (hc_ne c26 cr (by intro q; cases q))
  refine rt_inc (c := 1) rfl rfl ?_
  refine rt_inc (c := 1) rfl rfl ?_
  refine rt_k (k := 1) (pc' := 7) (L' := [some (.ref 23), some (.int w), some (.int (nI (((dpF w (J.take i)).length) + 1))), some (.int b), some (.int (nI (i + 1)))]) (st' := []) (h' := h_1) (fun _ => rfl) ?_
  have FF := f_3
  have k3 := c_5
  have k6 := c_6
  have e1 := dpF_s1 hr z1
  have el : (dpF w (J.take (i + 1))).length = (dpF w (J.take i)).length + 1 := by rw [e1, List.length_append]; rfl
  rw [← el]
  refine m_dp1 w hJ Y0 (i + 1) z0 _ (fr_tr FR FF) k3 _ k6 (fun j s hs => ?_) (fun j s hj hs => ?_) b ?_ k
  · rw [e1] at hs
    unfold va_up
    by_cases q : j < (dpF w (J.take i)).length
    · rw [List.getElem?_append_left q] at hs
      rw [if_neg (by omega)]
      exact H1 j s hs
    · have := gt_lt hs
      rw [List.length_append, List.length_singleton] at this
      have ej : j = (dpF w (J.take i)).length := by omega
      subst ej
      rw [List.getElem?_append_right (Nat.le_refl _), Nat.sub_self] at hs
      cases hs
      rw [if_pos rfl]
  · unfold va_up
    rw [if_neg (by omega)]
    exact H2 j s (by omega) hs
  · rw [take_sn hr]
    rcases hb with ⟨q, y⟩ | ⟨q, s, y1, y2⟩
    · refine Or.inl ⟨q, fun s hs => ?_⟩
      rcases List.mem_append.mp hs with y' | y'
      · exact y s y'
      · rw [List.mem_singleton] at y'; rw [y']; exact z1
    · exact Or.inr ⟨q, s, List.mem_append.mpr (Or.inl y1), y2⟩
termination_by J.length - i
theorem m_drop (C : mKp h ad T J nx D K made st) (w : Int32) : rt_ X d 152 0 [some (.ref 23), some (.int w), none, none, none] [] h (fun v h' => fr_ (fun z => z = 23 ∨ z = 26) h h' ∧ ∃ J', mKp h' ad T J' nx D K made st ∧ dpR J w v J') := by
  obtain ⟨l39, ⟨nw, pa, nc, bc, kn, c23, CA⟩, ⟨⟨g, t1, t2⟩, t3, t4⟩, W, CI, CD, CK, CS⟩ := id C
  obtain ⟨F, c26, hJ, HI⟩ := id CI
  refine rt_k (k := 6) (pc' := 7) (L' := [some (.ref 23), some (.int w), some (.int (nI 0)), some (.int (nI 0)), some (.int (nI 0))]) (st' := []) (h' := h) (fun _ => rfl) ?_
  refine m_dp1 (J := J) (kn := kn) w hJ (fun j s hs => (HI j s hs).2) 0 (Nat.zero_le _) h fr_rf c23 F c26 (fun j s hs => by simp [dpF] at hs) (fun j s _ hs => (HI j s hs).1) (nI 0) (Or.inl ⟨rfl, fun s hs => by simp at hs⟩) (fun h1 F1 b f1 d26 H1 hb => ?_)
  have E1 := fr_ex f1 (fun k q => by unfold zz at q; omega)
  have d23 := fr_at f1 (by decide) c23
  have e : ∀ k, ¬ k = 26 → h1[k]? = h[k]? := fun k hn => f1.2.2 k hn
  rcases hb with ⟨rfl, hn⟩ | ⟨rfl, hs⟩
  · have ed : dpF w J = J := List.filter_eq_self.mpr (fun s hs => by rw [decide_eq_false (hn s hs)]; rfl)
    rw [ed] at H1 ⊢
    refine rt_k (k := 3) (pc' := 63) (L' := [some (.ref 23), some (.int w), some (.int (nI J.length)), some (.int (nI 0)), some (.int (nI J.length))]) (st' := [.int (-2)]) (h' := h1) (fun _ => rfl) ?_
    exact rt_r (v := some (.int (-2))) rfl rfl (⟨fr_mo f1 (fun k q => Or.inr q), J, ⟨by rw [f1.1]; exact l39, ⟨nw, pa, nc, bc, kn, d23, CA.ex E1 (fun k h1 h2 => e k (by omega))⟩, ⟨⟨g, (e 24 (by decide)).trans t1, t2⟩, t3, t4⟩, W.ex E1 (e 25 (by decide)), ⟨F1, d26, hJ, fun j s hs => ⟨H1 j s hs, (HI j s hs).2.ex E1⟩⟩, CD.ex E1 (e 27 (by decide)) (e 28 (by decide)), CK.ex E1 (e 29 (by decide)), CS.ex E1 (e 30 (by decide)) (e 31 (by decide))⟩, Or.inl ⟨hn, rfl, rfl⟩⟩)
  · have hl := List.length_filter_le (fun r => !decide (nI (lNo r) = w)) J
    refine rt_k (k := 4) (pc' := 66) (L' := [some (.ref 23), some (.int w), some (.int (nI ((dpF w J).length))), some (.int (nI 1)), some (.int (nI J.length))]) (st' := [.int (nI ((dpF w J).length)), .ref 23]) (h' := h1) (fun _ => rfl) ?_
    refine rt_pf rfl d23 ⟨rfl, (show 6 < 24 by decide), rfl⟩ ?_
    refine rt_nm (fun h_8 e_9 => ?_)
    have f_10 : fr_ (fun z => z = 23) h1 h_8 := by rw [e_9]; exact fr_set (e' := .inr (12, [.ref 24, .int (nI T.length), .ref 25, .int nw, .int pa, .ref 26, .int (nI ((dpF w J).length)), .int (nI nx), .ref 27, .ref 28, .int (nI D.length), .ref 29, .int (nI K.length), .int (nI made), .ref 30, .ref 31, .int (nI st.length), .ref 32, .int nc, .ref 33, .ref 34, .int bc, .int kn, .ref 35])) d23 (by rfl) (by first | decide | simp)
    have n_11 : h_8.length = h1.length := by rw [e_9]; simp
    have c_12 : h_8[23]? = some (.inr (12, [.ref 24, .int (nI T.length), .ref 25, .int nw, .int pa, .ref 26, .int (nI ((dpF w J).length)), .int (nI nx), .ref 27, .ref 28, .int (nI D.length), .ref 29, .int (nI K.length), .int (nI made), .ref 30, .ref 31, .int (nI st.length), .ref 32, .int nc, .ref 33, .ref 34, .int bc, .int kn, .ref 35])) := by rw [e_9]; exact hs_self d23
    refine rt_k (k := 2) (pc' := 71) (L' := [some (.ref 23), some (.int w), some (.int (nI ((dpF w J).length))), some (.int (nI 1)), some (.int (nI J.length))]) (st' := [.int (nI 0), .ref 23]) (h' := h_8) (fun _ => rfl) ?_
    refine rt_pf rfl c_12 ⟨rfl, (show 22 < 24 by decide), rfl⟩ ?_
    refine rt_nm (fun h_13 e_14 => ?_)
    have f_15 : fr_ (fun z => z = 23) h1 h_13 := by rw [e_14]; exact fr_tr f_10 (fr_set (e' := .inr (12, [.ref 24, .int (nI T.length), .ref 25, .int nw, .int pa, .ref 26, .int (nI ((dpF w J).length)), .int (nI nx), .ref 27, .ref 28, .int (nI D.length), .ref 29, .int (nI K.length), .int (nI made), .ref 30, .ref 31, .int (nI st.length), .ref 32, .int nc, .ref 33, .ref 34, .int bc, .int (nI 0), .ref 35])) c_12 (by rfl) (by first | decide | simp))
    have n_16 : h_13.length = h_8.length := by rw [e_14]; simp
    have c_17 : h_13[23]? = some (.inr (12, [.ref 24, .int (nI T.length), .ref 25, .int nw, .int pa, .ref 26, .int (nI ((dpF w J).length)), .int (nI nx), .ref 27, .ref 28, .int (nI D.length), .ref 29, .int (nI K.length), .int (nI made), .ref 30, .ref 31, .int (nI st.length), .ref 32, .int nc, .ref 33, .ref 34, .int bc, .int (nI 0), .ref 35])) := by rw [e_14]; exact hs_self c_12
    refine rt_k (k := 1) (pc' := 75) (L' := [some (.ref 23), some (.int w), some (.int (nI ((dpF w J).length))), some (.int (nI 1)), some (.int (nI J.length))]) (st' := [.int (nI ((dpF w J).length))]) (h' := h_13) (fun _ => rfl) ?_
    have f2 := f_15
    have m23 := c_17
    generalize h_13 = h2 at *
    have FR : fr_ (fun z => z = 23 ∨ z = 26) h h2 := fr_tr (fr_mo f1 (fun k q => Or.inr q)) (fr_mo f2 (fun k q => Or.inl q))
    have E := fr_ex FR (fun k q => by unfold zz at q; omega)
    have e' : ∀ k, ¬ (k = 23 ∨ k = 26) → h2[k]? = h[k]? := fun k hn => FR.2.2 k hn
    have HI2 : yLs h2 ad F1 (dpF w J) := fun j s hs => by
      obtain ⟨j', hj'⟩ := gt_mem (List.mem_filter.mp (List.mem_of_getElem? hs)).1
      exact ⟨H1 j s hs, (HI j' s hj').2.ex E⟩
    exact rt_r (v := some (.int (nI ((dpF w J).length)))) rfl rfl (⟨FR, dpF w J, ⟨by rw [FR.1]; exact l39, ⟨nw, pa, nc, bc, nI 0, m23, (CA.ex E (fun k h1 h2 => e' k (by omega))).kn0⟩, ⟨⟨g, (e' 24 (by decide)).trans t1, t2⟩, t3, t4⟩, W.ex E (e' 25 (by decide)), ⟨F1, fr_at f2 (by decide) d26, by unfold dpF; omega, HI2⟩, CD.ex E (e' 27 (by decide)) (e' 28 (by decide)), CK.ex E (e' 29 (by decide)), CS.ex E (e' 30 (by decide)) (e' 31 (by decide))⟩, Or.inr ⟨hs, rfl, rfl⟩⟩)
end NG

