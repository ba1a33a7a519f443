/-! THE REFERENCE, 5: versions read, whole. -/
section ME
variable {X : Nat × (Nat → Int32)} {d : Nat} {h : List va_E} {Q : Option Value → List va_E → Prop} {w : kW} {o : Nat → Int32} {ws : List kW} {tl nw pa : Int32}
theorem okM_i {m : kW} : okM m = true ↔ (1 ≤ m.length ∧ m.length ≤ 8) ∧ (¬ m.all dg = true ∨ okN 8 m = true) := by
  unfold okM
  simp only [Bool.and_eq_true, Bool.or_eq_true, decide_eq_true_eq, Bool.not_eq_true', Bool.not_eq_true]
theorem sS.gf {h' : List va_E} {c s a : Nat} (C : sS h a w) (G : gr (fun _ => False) c s h h') : sS h' a w := C.ex (gr_ex G (fun _ _ => id))
theorem mv_lp {h0 : List va_E} {wa a na ma : Nat} {f : Int32} {n3 : Nat × Nat × Nat} {N : Nat → Int32} (h39 : 39 ≤ h0.length) (hz : h0.length ≤ a ∧ a < na ∧ na < ma) (hN : ∀ ms, yN N (n3, ms)) (n : Nat) (ms : List kW) (hn : ms.length + n = 4) (p : Nat) (h : List va_E) (G : gr (fun _ => False) (9 + 2 * ms.length) (22 + 4 * ms.length + p) h0 h) (S : sS h wa w) (hp : p ≤ w.length) (hs : p = w.length ∨ w.getD p 0 = (if ms.length = 0 then 45 else 46)) (V : yM h a na ma N ms) (W : wfV (n3, ms)) (x4 x5 : Option Value) : rt_ X (d + 6) 135 143 [some (.ref wa), some (.int f), some (.ref a), some (.int (nI p)), x4, x5] [] h (mvP h0 ((mR n ms.length ms (sl w p w.length)).map (fun m => (n3, m)))) := by
  obtain ⟨v, x, y, c1, hl, hb⟩ := S.at
  obtain ⟨V1, V2, F, V3, V4, V5⟩ := id V
  have hG := G.1
  refine rt_k (k := 2) (pc' := 145) (L' := [some (.ref wa), some (.int f), some (.ref a), some (.int (nI p)), x4, x5]) (st' := [.ref wa, .int (nI p)]) (h' := h) (fun _ => by first | rfl | (cases x4 <;> rfl) | (cases x5 <;> rfl)) ?_
  refine rt_cvE rfl (by decide) c1 rfl rfl rfl rfl (st_len S) ?_
  refine rt_ige rfl (by omega) (by omega) (fun z => ?_) (fun z => ?_)
  ·
    rw [sl_nil z, mR_nil]
    refine rt_k (k := 1) (pc' := 311) (L' := [some (.ref wa), some (.int f), some (.ref a), some (.int (nI p)), x4, x5]) (st' := [.ref a]) (h' := h) (fun _ => by first | rfl | (cases x4 <;> rfl) | (cases x5 <;> rfl)) ?_
    exact rt_r (v := some (.ref a)) rfl rfl (⟨gr_mo G (fun _ q => q) (by omega) (by omega), Or.inl ⟨(n3, ms), a, rfl, rfl, hz.1, ⟨na, ma, N, F, ⟨by unfold zz; omega, V1⟩, ⟨by unfold zz; omega, V2⟩, ⟨by unfold zz; omega, V3⟩, hN ms, V5, W⟩, na, ma, _, V1, by omega⟩⟩)
  have hsp : w.getD p 0 = (if ms.length = 0 then 45 else 46) := by
    rcases hs with q | q
    · omega
    · exact q
  have ec : sl w p w.length = w.getD p 0 :: sl w (p + 1) w.length := sl_cons z (Nat.le_refl _)
  refine rt_inc (c := 1) rfl rfl ?_
  refine rt_k (k := 2) (pc' := 157) (L' := [some (.ref wa), some (.int f), some (.ref a), some (.int (nI (p + 1))), some (.int (nI (p + 1))), x5]) (st' := []) (h' := h) (fun _ => by first | rfl | (cases x4 <;> rfl) | (cases x5 <;> rfl)) ?_
  refine mv_mq (d := d + 2) S f a (p + 1) (p + 1) x5 (Nat.le_refl _) z (fun i h1 h2 => by omega) (fun q h1 hq2 h3 h4 => ?_)
  have hw := sl_while (T := w) (P := mkb) (b := w.length) (Nat.le_refl _) (q - (p + 1)) (p + 1) q rfl h1 hq2 h3 h4
  have ll : (sl w (p + 1) q).length = q - (p + 1) := sl_len hq2
  have amk : (sl w (p + 1) q).all mkb = true := List.all_eq_true.mpr (sl_allP hq2 h3)
  refine rt_k (k := 3) (pc' := 211) (L' := [some (.ref wa), some (.int f), some (.ref a), some (.int (nI (p + 1))), some (.int (nI q)), x5]) (st' := [.int (nI q), .int (nI (p + 1)), .ref wa]) (h' := h) (fun _ => by first | rfl | (cases x5 <;> rfl)) ?_
  refine rt_cv rfl (by decide) c1 rfl rfl rfl rfl (st_sub S h1 hq2 (by omega)) ?_
  rintro _ h1' ⟨m, rfl, g1, g2⟩
  have S1 := S.gf g1
  have Y1 := V.gr g1
  have G1 : gr (fun _ => False) 19 450 h0 h1' := gr_mo (gr_tr G g1) (fun _ q => q) (by omega) (by omega)
  have bad : mR n ms.length ms (sl w p w.length) = none → ∀ m : Value, rt_ X (d + 6) 135 261 [some (.ref wa), some (.int f), some (.ref a), some (.int (nI (p + 1))), some (.int (nI q)), some m] [] h1' (mvP h0 ((mR n ms.length ms (sl w p w.length)).map (fun m => (n3, m)))) := fun e m => by
    rw [e]
    refine rt_k (k := 1) (pc' := 262) (L' := [some (.ref wa), some (.int f), some (.ref a), some (.int (nI (p + 1))), some (.int (nI q)), some (m)]) (st' := [.null]) (h' := h1') (fun _ => rfl) ?_
    exact rt_r (v := some (.null)) rfl rfl (⟨G1, Or.inr ⟨rfl, rfl⟩⟩)
  have eR : mR n ms.length ms (sl w p w.length) = if 1 ≤ n ∧ okM (sl w (p + 1) q) = true then mR (n - 1) (ms.length + 1) (ms ++ [sl w (p + 1) q]) (sl w q w.length) else none := by
    cases n with
    | zero => rw [ec, mR, if_neg (fun q => by omega)]
    | succ n =>
      rw [ec, mR, hw.1, hw.2]
      by_cases y : okM (sl w (p + 1) q) = true
      · rw [if_pos ⟨hsp, y⟩, if_pos ⟨by omega, y⟩]; rfl
      · rw [if_neg (fun q => y q.2), if_neg (fun q => y q.2)]
  rcases g2 with ⟨am, rfl, sm⟩ | ⟨rfl, e0⟩
  rotate_left
  · have e1 : mR n ms.length ms (sl w p w.length) = none := by rw [eR, if_neg (fun q => by rw [e0] at q; exact absurd q.2 (by decide))]
    refine rt_k (k := 2) (pc' := 218) (L' := [some (.ref wa), some (.int f), some (.ref a), some (.int (nI (p + 1))), some (.int (nI q)), some (.retAddr 5)]) (st' := [.retAddr 5]) (h' := h1') (fun _ => by first | rfl | (cases x5 <;> rfl)) ?_
    refine rt_cE rfl rfl cst_len5 ?_
    refine rt_k (k := 2) (pc' := 261) (L' := [some (.ref wa), some (.int f), some (.ref a), some (.int (nI (p + 1))), some (.int (nI q)), some (.retAddr 5)]) (st' := []) (h' := h1') (fun _ => by first | rfl | (cases x5 <;> rfl)) ?_
    exact bad e1 _
  obtain ⟨v', x', y', k1, -, -⟩ := sm.at
  obtain ⟨W1, W2, F', W3, W4, W5⟩ := id Y1
  refine rt_k (k := 2) (pc' := 218) (L' := [some (.ref wa), some (.int f), some (.ref a), some (.int (nI (p + 1))), some (.int (nI q)), some (.ref am)]) (st' := [.ref am]) (h' := h1') (fun _ => by first | rfl | (cases x5 <;> rfl)) ?_
  refine rt_cvE rfl (by decide) k1 rfl rfl rfl rfl (st_len sm) ?_
  refine rt_k (k := 1) (pc' := 222) (L' := [some (.ref wa), some (.int f), some (.ref a), some (.int (nI (p + 1))), some (.int (nI q)), some (.ref am)]) (st' := [.int (nI 1), .int (nI ((sl w (p + 1) q).length))]) (h' := h1') (fun _ => by first | rfl | (cases x5 <;> rfl)) ?_
  refine rt_ilt rfl (by omega) (by decide) (fun z1 => ?_) (fun z1 => ?_)
  ·
    exact bad (by rw [eR, if_neg (fun q => by have := (okM_i.mp q.2).1; omega)]) _
  refine rt_k (k := 1) (pc' := 227) (L' := [some (.ref wa), some (.int f), some (.ref a), some (.int (nI (p + 1))), some (.int (nI q)), some (.ref am)]) (st' := [.ref am]) (h' := h1') (fun _ => by first | rfl | (cases x5 <;> rfl)) ?_
  refine rt_cvE rfl (by decide) k1 rfl rfl rfl rfl (st_len sm) ?_
  refine rt_k (k := 1) (pc' := 232) (L' := [some (.ref wa), some (.int f), some (.ref a), some (.int (nI (p + 1))), some (.int (nI q)), some (.ref am)]) (st' := [.int (nI 8), .int (nI ((sl w (p + 1) q).length))]) (h' := h1') (fun _ => by first | rfl | (cases x5 <;> rfl)) ?_
  refine rt_igt rfl (by omega) (by decide) (fun z2 => ?_) (fun z2 => ?_)
  ·
    exact bad (by rw [eR, if_neg (fun q => by have := (okM_i.mp q.2).1; omega)]) _
  refine rt_k (k := 1) (pc' := 236) (L' := [some (.ref wa), some (.int f), some (.ref a), some (.int (nI (p + 1))), some (.int (nI q)), some (.ref am)]) (st' := [.ref a]) (h' := h1') (fun _ => by first | rfl | (cases x5 <;> rfl)) ?_
  refine rt_gf rfl W1 rfl rfl ?_
  refine rt_k (k := 1) (pc' := 240) (L' := [some (.ref wa), some (.int f), some (.ref a), some (.int (nI (p + 1))), some (.int (nI q)), some (.ref am)]) (st' := [.int (nI 4), .int (nI ms.length)]) (h' := h1') (fun _ => by first | rfl | (cases x5 <;> rfl)) ?_
  refine rt_ieq rfl (by omega) (by decide) (fun z3 => ?_) (fun z3 => ?_)
  ·
    exact bad (by rw [eR, if_neg (fun q => by omega)]) _
  have fin : okM (sl w (p + 1) q) = true → rt_ X (d + 6) 135 263 [some (.ref wa), some (.int f), some (.ref a), some (.int (nI (p + 1))), some (.int (nI q)), some (.ref am)] [] h1' (mvP h0 ((mR n ms.length ms (sl w p w.length)).map (fun m => (n3, m)))) := fun ok => by
    rw [if_pos ⟨by omega, ok⟩] at eR
    rw [eR]
    refine mv_sto (h0 := h0) hz h39 Y1 sm (by omega) (fun h2 F2 Y2 => ?_)
    have el : (ms ++ [sl w (p + 1) q]).length = ms.length + 1 := by rw [List.length_append]; rfl
    have G2 : gr (fun _ => False) (9 + 2 * (ms.length + 1)) (22 + 4 * (ms.length + 1) + q) h0 h2 := by
      have g3 := gr_tr G g1
      refine ⟨by rw [F2.1]; exact g3.1, by rw [F2.1]; have := g3.2.1; omega, by rw [F2.2.1]; have := g3.2.2.1; omega, fun k hk _ => ?_⟩
      rw [F2.2.2 k (by omega)]; exact g3.2.2.2 k hk id
    have S2 : sS h2 wa w := by
      obtain ⟨v9, x9, y9, ⟨z91, k91⟩, ⟨f9, ⟨z92, k92⟩, k93⟩, k94, k95⟩ := S1
      have n1 : ¬ (wa = a ∨ wa = ma) := by
        rintro (q | q)
        · exact hc_ne k91 W1 (by intro q; cases q) q
        · exact hc_ne k91 W3 (by intro q; cases q) q
      have n2 : ¬ (v9 = a ∨ v9 = ma) := by
        rintro (q | q)
        · exact hc_ne k92 W1 (by intro q; cases q) q
        · exact hc_ne k92 W3 (by intro q; cases q) q
      exact ⟨v9, x9, y9, ⟨z91, fr_at F2 n1 k91⟩, ⟨f9, ⟨z92, fr_at F2 n2 k92⟩, k93⟩, k94, k95⟩
    obtain ⟨v2, x2, y2, d1, -, -⟩ := S2.at
    have W' : wfV (n3, ms ++ [sl w (p + 1) q]) := ⟨W.1, by show (ms ++ [sl w (p + 1) q]).length ≤ 4; rw [el]; omega, fun m hm => by
      rcases List.mem_append.mp hm with y | y
      · exact W.2.2 m y
      · rw [List.mem_singleton.mp y]; exact ⟨ok, amk⟩⟩
    have again : (q = w.length ∨ w.getD q 0 = 46) → rt_ X (d + 6) 135 307 [some (.ref wa), some (.int f), some (.ref a), some (.int (nI q)), some (.int (nI q)), some (.ref am)] [] h2 (mvP h0 ((mR (n - 1) (ms.length + 1) (ms ++ [sl w (p + 1) q]) (sl w q w.length)).map (fun m => (n3, m)))) := fun hq => by
      refine rt_k (k := 1) (pc' := 143) (L' := [some (.ref wa), some (.int f), some (.ref a), some (.int (nI q)), some (.int (nI q)), some (.ref am)]) (st' := []) (h' := h2) (fun _ => rfl) ?_
      have := mv_lp (f := f) h39 hz hN (n - 1) (ms ++ [sl w (p + 1) q]) (by rw [el]; omega) q h2 (by rw [el]; exact G2) S2 hq2 (by rw [el, if_neg (by omega)]; exact hq) Y2 W' (some (.int (nI q))) (some (.ref am))
      rw [el] at this
      exact this
    refine rt_k (k := 4) (pc' := 289) (L' := [some (.ref wa), some (.int f), some (.ref a), some (.int (nI q)), some (.int (nI q)), some (.ref am)]) (st' := [.ref wa, .int (nI q)]) (h' := h2) (fun _ => rfl) ?_
    refine rt_cvE rfl (by decide) d1 rfl rfl rfl rfl (st_len S2) ?_
    refine rt_ige rfl (by omega) (by omega) (fun y1 => ?_) (fun y1 => ?_)
    ·
      exact again (Or.inl (by omega))
    have b1 := getD_lt hb q
    refine rt_k (k := 2) (pc' := 297) (L' := [some (.ref wa), some (.int f), some (.ref a), some (.int (nI q)), some (.int (nI q)), some (.ref am)]) (st' := [.int (nI q), .ref wa]) (h' := h2) (fun _ => rfl) ?_
    refine rt_cvE rfl (by decide) d1 rfl rfl rfl rfl (st_char S2 y1) ?_
    refine rt_k (k := 1) (pc' := 302) (L' := [some (.ref wa), some (.int f), some (.ref a), some (.int (nI q)), some (.int (nI q)), some (.ref am)]) (st' := [.int (nI 46), .int (nI (w.getD q 0))]) (h' := h2) (fun _ => rfl) ?_
    refine rt_ieq rfl (by omega) (by decide) (fun y2 => ?_) (fun y2 => ?_)
    ·
      exact again (Or.inr y2)
    have e0 : mR (n - 1) (ms.length + 1) (ms ++ [sl w (p + 1) q]) (sl w q w.length) = none := by
      rw [sl_cons y1 (Nat.le_refl _)]
      cases n - 1 with
      | zero => rw [mR]
      | succ n => rw [mR, if_neg (fun y => by have := y.1; rw [if_neg (by omega)] at this; exact y2 this)]
    rw [e0]
    refine rt_k (k := 1) (pc' := 306) (L' := [some (.ref wa), some (.int f), some (.ref a), some (.int (nI q)), some (.int (nI q)), some (.ref am)]) (st' := [.null]) (h' := h2) (fun _ => rfl) ?_
    exact rt_r (v := some (.null)) rfl rfl (⟨gr_mo G2 (fun _ q => q) (by omega) (by omega), Or.inr ⟨rfl, rfl⟩⟩)
  refine rt_k (k := 1) (pc' := 245) (L' := [some (.ref wa), some (.int f), some (.ref a), some (.int (nI (p + 1))), some (.int (nI q)), some (.ref am)]) (st' := [.ref am]) (h' := h1') (fun _ => by first | rfl | (cases x5 <;> rfl)) ?_
  refine rt_cE rfl rfl (m_digits sm) ?_
  refine rt_pe rfl (fun z4 => ?_) (fun z4 => ?_)
  ·
    exact fin (okM_i.mpr ⟨⟨by omega, by omega⟩, Or.inl (fun q => z4 ⟨q, by omega⟩)⟩)
  refine rt_k (k := 2) (pc' := 255) (L' := [some (.ref wa), some (.int f), some (.ref a), some (.int (nI (p + 1))), some (.int (nI q)), some (.ref am)]) (st' := [.int (nI 8), .ref am]) (h' := h1') (fun _ => by first | rfl | (cases x5 <;> rfl)) ?_
  refine rt_cE rfl rfl (m_number sm (m := 8) (by omega)) ?_
  by_cases ok : okN 8 (sl w (p + 1) q) = true
  · have e2 : nmN 8 (sl w (p + 1) q) = nI (dv (sl w (p + 1) q)) := by unfold nmN; rw [if_pos ⟨z4.1, ok⟩]
    have dl : dv (sl w (p + 1) q) < 10 ^ 8 := dv_b (List.all_eq_true.mp z4.1) (by omega)
    rw [e2]
    refine rt_zge rfl (by omega) ?_
    exact fin (okM_i.mpr ⟨⟨by omega, by omega⟩, Or.inr ok⟩)
  · have e2 : nmN 8 (sl w (p + 1) q) = (-1) := by unfold nmN; rw [if_neg (fun y => ok y.2)]
    rw [e2]
    refine rt_k (k := 1) (pc' := 261) (L' := [some (.ref wa), some (.int f), some (.ref a), some (.int (nI (p + 1))), some (.int (nI q)), some (.ref am)]) (st' := []) (h' := h1') (fun _ => rfl) ?_
    exact bad (by rw [eR, if_neg (fun q => by rcases (okM_i.mp q.2).2 with y | y; exact y z4.1; exact ok y)]) _
termination_by n
end ME

