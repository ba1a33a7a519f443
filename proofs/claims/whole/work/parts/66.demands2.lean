/-! DEMANDS that change; PATHS of releases. -/
/-- cells of ranges and of what they are made of -/
def okR (e : va_E) : Prop := match e with
  | .inr (ci, _) => ci = 8 ∨ ci = 10 ∨ ci = 11
  | .inl (t, n, _) => (t = 1 ∧ n = 7) ∨ t = 8 ∨ t = 2
def ey_ (h h' : List va_E) : Prop := ∀ a e, okR e → z_ h a e → z_ h' a e
theorem zV.ey {h h' : List va_E} {a : Nat} {v : kV} (E : ey_ h h') (C : zV h a v) : zV h' a v := by
  obtain ⟨k, f, c1, c2, c3⟩ := C
  exact ⟨k, f, E _ _ (Or.inl rfl) c1, E _ _ (Or.inl ⟨rfl, rfl⟩) c2, c3⟩
theorem zO.ey {h h' : List va_E} {a : Option Nat} {v : Option kV} (E : ey_ h h') (C : zO h a v) : zO h' a v := by
  cases a <;> cases v
  · exact C
  · exact C
  · exact C
  · exact zV.ey E C
theorem zT.ey {h h' : List va_E} {a : Nat} {t : kT} (E : ey_ h h') (C : zT h a t) : zT h' a t := by
  obtain ⟨la, ha, c1, c2, c3⟩ := C
  exact ⟨la, ha, E _ _ (Or.inr (Or.inr rfl)) c1, c2.ey E, c3.ey E⟩
theorem zRf.ey {h h' : List va_E} {F : Nat → Option Nat} {S : Nat → Int32} {R : kR} (E : ey_ h h') (C : zRf h F S R) : zRf h' F S R := fun c q hq => by
  obtain ⟨a, b, g⟩ := C c q hq
  exact ⟨a, b, fun i t ht => by obtain ⟨ta, u, w⟩ := g i t ht; exact ⟨ta, u, w.ey E⟩⟩
theorem zR.ey {h h' : List va_E} {a : Nat} {R : kR} (E : ey_ h h') (C : zR h a R) : zR h' a R := by
  obtain ⟨tt, sz, F, S, c1, c2, c3, c4, c5⟩ := C
  exact ⟨tt, sz, F, S, E _ _ (Or.inr (Or.inl rfl)) c1, E _ _ (Or.inr (Or.inl rfl)) c2, E _ _ (Or.inr (Or.inr rfl)) c3, c4, c5.ey E⟩
theorem zDf.ey {h h' : List va_E} {N : Nat → Int64} {G : Nat → Option Nat} {D : kD} (E : ey_ h h') (C : zDf h N G D) : zDf h' N G D := fun i e he => by
  obtain ⟨a, ra, b, g⟩ := C i e he
  exact ⟨a, ra, b, g.ey E⟩
theorem ey_rf (h : List va_E) : ey_ h h := fun _ _ _ q => q
theorem ey_tr {h h1 h2 : List va_E} (a : ey_ h h1) (b : ey_ h1 h2) : ey_ h h2 := fun k e o q => b k e o (a k e o q)
theorem ey_ex {h h' : List va_E} (E : ex_ h h') : ey_ h h' := fun a e _ q => E a e q
/-- a cell that belongs to no range changes -/
theorem ey_set {h : List va_E} {a : Nat} {e e' : va_E} (c : h[a]? = some e) (hn : ¬ okR e) : ey_ h (h.set a e') := fun k x o q => by
  have hk : a ≠ k := fun z => by subst z; rw [q.2] at c; cases c; exact hn o
  exact ⟨q.1, by rw [List.getElem?_set_ne hk]; exact q.2⟩
section DM
variable {X : Nat × (Nat → Int32)} {d : Nat} {h : List va_E} {Q : Option Value → List va_E → Prop}
theorem dmd_add {a nm rg cap : Nat} {N : Nat → Int64} {G : Nat → Option Nat} {D : kD} (C : dD h a nm rg cap N G D) {ra : Nat} {w : kW} {R : kR} (hR : zR h ra R) : rt_ X d 51 0 [some (.ref a), some (.long (nmI w)), none, some (.ref ra)] [] h (fun v h' => (D.length = cap ∧ v = some (.int 0) ∧ h' = h) ∨ (D.length < cap ∧ v = some (.int 1) ∧ fr_ (fun z => z = a ∨ z = nm ∨ z = rg) h h' ∧ ey_ h h' ∧ ∃ N' G', dD h' a nm rg cap N' G' (D ++ [(w, R)]))) := by
  obtain ⟨c1, c2, c3, hn, hc, HD⟩ := id C
  obtain ⟨tt, sz, F, S, ⟨-, cr⟩, -⟩ := id hR
  refine rt_k (k := 1) (pc' := 1) (L' := [some (.ref a), some (.long (nmI w)), none, some (.ref ra)]) (st' := [.ref a]) (h' := h) (fun _ => rfl) ?_
  refine rt_gf rfl c1 rfl rfl ?_
  refine rt_k (k := 1) (pc' := 5) (L' := [some (.ref a), some (.long (nmI w)), none, some (.ref ra)]) (st' := [.ref a, .int (nI D.length)]) (h' := h) (fun _ => rfl) ?_
  refine rt_gf rfl c1 rfl rfl ?_
  refine rt_aln rfl c2 (by decide) ?_
  refine rt_ine rfl (by omega) (by omega) (fun z => ?_) (fun z => ?_)
  rotate_left
  ·
    refine rt_k (k := 1) (pc' := 13) (L' := [some (.ref a), some (.long (nmI w)), none, some (.ref ra)]) (st' := [.int (nI 0)]) (h' := h) (fun _ => rfl) ?_
    exact rt_r (v := some (.int (nI 0))) rfl rfl (Or.inl ⟨z, rfl, rfl⟩)
  have hlt : D.length < cap := Nat.lt_of_le_of_ne hn z
  refine rt_k (k := 1) (pc' := 15) (L' := [some (.ref a), some (.long (nmI w)), none, some (.ref ra)]) (st' := [.ref a]) (h' := h) (fun _ => rfl) ?_
  refine rt_gf rfl c1 rfl rfl ?_
  refine rt_k (k := 1) (pc' := 19) (L' := [some (.ref a), some (.long (nmI w)), none, some (.ref ra)]) (st' := [.ref a, .ref nm]) (h' := h) (fun _ => rfl) ?_
  refine rt_gf rfl c1 rfl rfl ?_
  refine rt_k (k := 1) (pc' := 23) (L' := [some (.ref a), some (.long (nmI w)), none, some (.ref ra)]) (st' := [.long (nmI w), .int (nI D.length), .ref nm]) (h' := h) (fun _ => rfl) ?_
  refine rt_lasN rfl c2 rfl (by omega) (by omega) ?_
  have f_1 : fr_ (fun z => z = a ∨ z = nm ∨ z = rg) h (h.set nm (.inl (1, cap, .inr (.inl (vp_updL N D.length (nmI w)))))) := fr_set (e' := .inl (1, cap, .inr (.inl (vp_updL N D.length (nmI w))))) c2 (by rfl) (by first | decide | simp)
  have y_2 : ey_ h (h.set nm (.inl (1, cap, .inr (.inl (vp_updL N D.length (nmI w)))))) := ey_set (e' := .inl (1, cap, .inr (.inl (vp_updL N D.length (nmI w))))) c2 (by simp [okR] <;> omega)
  have c_3 := hs_ne (a := nm) (e' := .inl (1, cap, .inr (.inl (vp_updL N D.length (nmI w))))) c1 (hc_ne c2 c1 (by intro q; cases q))
  have c_4 := hs_ne (a := nm) (e' := .inl (1, cap, .inr (.inl (vp_updL N D.length (nmI w))))) c3 (hc_ne c2 c3 (by intro q; cases q))
  have c_5 := hs_ne (a := nm) (e' := .inl (1, cap, .inr (.inl (vp_updL N D.length (nmI w))))) cr (hc_ne c2 cr (by intro q; cases q))
  have c_6 := hs_self (e' := .inl (1, cap, .inr (.inl (vp_updL N D.length (nmI w))))) c2
  refine rt_k (k := 1) (pc' := 25) (L' := [some (.ref a), some (.long (nmI w)), none, some (.ref ra)]) (st' := [.ref a]) (h' := (h.set nm (.inl (1, cap, .inr (.inl (vp_updL N D.length (nmI w))))))) (fun _ => rfl) ?_
  refine rt_gf rfl c_3 rfl rfl ?_
  refine rt_k (k := 1) (pc' := 29) (L' := [some (.ref a), some (.long (nmI w)), none, some (.ref ra)]) (st' := [.ref a, .ref rg]) (h' := (h.set nm (.inl (1, cap, .inr (.inl (vp_updL N D.length (nmI w))))))) (fun _ => rfl) ?_
  refine rt_gf rfl c_3 rfl rfl ?_
  refine rt_k (k := 1) (pc' := 33) (L' := [some (.ref a), some (.long (nmI w)), none, some (.ref ra)]) (st' := [.ref ra, .int (nI D.length), .ref rg]) (h' := (h.set nm (.inl (1, cap, .inr (.inl (vp_updL N D.length (nmI w))))))) (fun _ => rfl) ?_
  refine rt_aasN rfl c_4 c_5 ⟨rfl, rfl⟩ (by omega) (by omega) ?_
  have f_7 : fr_ (fun z => z = a ∨ z = nm ∨ z = rg) h ((h.set nm (.inl (1, cap, .inr (.inl (vp_updL N D.length (nmI w)))))).set rg (.inl (6, cap, .inr (.inr (.inr (.inr (va_up G D.length (some ra)))))))) := fr_tr f_1 (fr_set (e' := .inl (6, cap, .inr (.inr (.inr (.inr (va_up G D.length (some ra))))))) c_4 (by rfl) (by first | decide | simp))
  have y_8 : ey_ h ((h.set nm (.inl (1, cap, .inr (.inl (vp_updL N D.length (nmI w)))))).set rg (.inl (6, cap, .inr (.inr (.inr (.inr (va_up G D.length (some ra)))))))) := ey_tr y_2 (ey_set (e' := .inl (6, cap, .inr (.inr (.inr (.inr (va_up G D.length (some ra))))))) c_4 (by simp [okR] <;> omega))
  have c_9 := hs_ne (a := rg) (e' := .inl (6, cap, .inr (.inr (.inr (.inr (va_up G D.length (some ra))))))) c_3 (hc_ne c_4 c_3 (by intro q; cases q))
  have c_10 := hs_ne (a := rg) (e' := .inl (6, cap, .inr (.inr (.inr (.inr (va_up G D.length (some ra))))))) c_6 (hc_ne c_4 c_6 (by intro q; cases q))
  have c_11 := hs_ne (a := rg) (e' := .inl (6, cap, .inr (.inr (.inr (.inr (va_up G D.length (some ra))))))) c_5 (hc_ne c_4 c_5 (by intro q; cases q))
  have c_12 := hs_self (e' := .inl (6, cap, .inr (.inr (.inr (.inr (va_up G D.length (some ra))))))) c_4
  refine rt_k (k := 2) (pc' := 36) (L' := [some (.ref a), some (.long (nmI w)), none, some (.ref ra)]) (st' := [.ref a, .ref a]) (h' := ((h.set nm (.inl (1, cap, .inr (.inl (vp_updL N D.length (nmI w)))))).set rg (.inl (6, cap, .inr (.inr (.inr (.inr (va_up G D.length (some ra))))))))) (fun _ => rfl) ?_
  refine rt_gf rfl c_9 rfl rfl ?_
  refine rt_k (k := 1) (pc' := 40) (L' := [some (.ref a), some (.long (nmI w)), none, some (.ref ra)]) (st' := [.int (nI 1), .int (nI D.length), .ref a]) (h' := ((h.set nm (.inl (1, cap, .inr (.inl (vp_updL N D.length (nmI w)))))).set rg (.inl (6, cap, .inr (.inr (.inr (.inr (va_up G D.length (some ra))))))))) (fun _ => rfl) ?_
  refine rt_add rfl ?_
  refine rt_pf rfl c_9 ⟨rfl, (show 2 < 3 by decide), rfl⟩ ?_
  have f_13 : fr_ (fun z => z = a ∨ z = nm ∨ z = rg) h (((h.set nm (.inl (1, cap, .inr (.inl (vp_updL N D.length (nmI w)))))).set rg (.inl (6, cap, .inr (.inr (.inr (.inr (va_up G D.length (some ra)))))))).set a (.inr (4, [.ref nm, .ref rg, .int (nI (D.length + 1))]))) := fr_tr f_7 (fr_set (e' := .inr (4, [.ref nm, .ref rg, .int (nI (D.length + 1))])) c_9 (by rfl) (by first | decide | simp))
  have y_14 : ey_ h (((h.set nm (.inl (1, cap, .inr (.inl (vp_updL N D.length (nmI w)))))).set rg (.inl (6, cap, .inr (.inr (.inr (.inr (va_up G D.length (some ra)))))))).set a (.inr (4, [.ref nm, .ref rg, .int (nI (D.length + 1))]))) := ey_tr y_8 (ey_set (e' := .inr (4, [.ref nm, .ref rg, .int (nI (D.length + 1))])) c_9 (by simp [okR] <;> omega))
  have c_15 := hs_ne (a := a) (e' := .inr (4, [.ref nm, .ref rg, .int (nI (D.length + 1))])) c_10 (hc_ne c_9 c_10 (by intro q; cases q))
  have c_16 := hs_ne (a := a) (e' := .inr (4, [.ref nm, .ref rg, .int (nI (D.length + 1))])) c_12 (hc_ne c_9 c_12 (by intro q; cases q))
  have c_17 := hs_ne (a := a) (e' := .inr (4, [.ref nm, .ref rg, .int (nI (D.length + 1))])) c_11 (hc_ne c_9 c_11 (by intro q; cases q))
  have c_18 := hs_self (e' := .inr (4, [.ref nm, .ref rg, .int (nI (D.length + 1))])) c_9
  refine rt_k (k := 1) (pc' := 45) (L' := [some (.ref a), some (.long (nmI w)), none, some (.ref ra)]) (st' := [.int (nI 1)]) (h' := (((h.set nm (.inl (1, cap, .inr (.inl (vp_updL N D.length (nmI w)))))).set rg (.inl (6, cap, .inr (.inr (.inr (.inr (va_up G D.length (some ra)))))))).set a (.inr (4, [.ref nm, .ref rg, .int (nI (D.length + 1))])))) (fun _ => rfl) ?_
  refine rt_r (v := some (.int (nI 1))) rfl rfl (Or.inr ⟨hlt, rfl, f_13, y_14, vp_updL N D.length (nmI w), va_up G D.length (some ra), ?_, c_15, c_16, ?_, hc, ?_⟩)
  · rw [List.length_append]; exact c_18
  · rw [List.length_append]; simp; omega
  · intro i e he
    rcases gt_snoc he with q | ⟨q1, q2⟩
    · have hl := gt_lt q
      obtain ⟨u1, rb, u2, u3⟩ := HD i e q
      exact ⟨by unfold vp_updL; rw [if_neg (by omega)]; exact u1, rb, by rw [va_up_ne _ _ (by omega)]; exact u2, u3.ey y_14⟩
    · subst q1; subst q2
      exact ⟨by unfold vp_updL; rw [if_pos rfl], ra, va_up_self _ _ _, hR.ey y_14⟩
end DM

