/-! THE REFERENCE, 14: the method that reads a range. -/
section MO
variable {X : Nat × (Nat → Int32)} {d : Nat} {h : List va_E} {Q : Option Value → List va_E → Prop} {o : Nat → Int32} {ws : List kW} {tl : Int32}
theorem yB.l0 {l : Nat} {a sg ve ts : Nat} (Y : yB 0 h a sg ve ts [] []) : yB l h a sg ve ts [] [] := by
  obtain ⟨S, F, N, y1, y2, y3, y4, y5, y6, y7, y8, y9⟩ := Y
  exact ⟨S, F, N, y1, y2, y3, y4, y5, y6, fun c q hq => (by simp at hq), fun i t ht => (by simp at ht), y9⟩
theorem m_range {i : Nat} (h39 : 39 ≤ h.length) (W : mW h ws) (hi : i ≤ ws.length) (c23 : h[23]? = some (mo tl (nI ws.length) (nI i) o)) : rt_ X (d + 7) 143 0 [some (.ref 23), none, none, none, none] [] h (mrP h tl ws i o (pRng (ws.drop i))) := by
  refine rt_k (k := 1) (pc' := 3) (L' := [some (.ref 23), none, none, none, none]) (st' := [.ref h.length]) (h' := (h ++ [.inr (16, [.null, .null, .null, .int (nI 0)])])) (fun _ => rfl) ?_
  refine rt_nm (fun h_1 e_2 => ?_)
  have g_3 : gr (fun z => z = 23) 1 (4) h h_1 := by rw [e_2]; exact gr_mo (gr_tr (gr_rf (h := h)) (gr_app (.inr (16, [.null, .null, .null, .int (nI 0)])))) (fun _ q => q) (by first | exact Nat.le_refl _ | omega) (by first | exact Nat.le_refl _ | (simp only [ab_z]; omega))
  have n_4 : h_1.length = h.length + 1 := by rw [e_2]; simp
  have c_5 : h_1[23]? = some (.inr (12, [.ref 24, .int tl, .ref 25, .int (nI ws.length), .int (nI i), .ref 26, .int (o 0), .int (o 1), .ref 27, .ref 28, .int (o 2), .ref 29, .int (o 3), .int (o 4), .ref 30, .ref 31, .int (o 5), .ref 32, .int (o 6), .ref 33, .ref 34, .int (o 7), .int (o 8), .ref 35])) := by rw [e_2]; exact ha_old _ c23
  have c_6 : h_1[h.length]? = some (.inr (16, [.null, .null, .null, .int (nI 0)])) := by rw [e_2]; exact ha_new
  refine rt_k (k := 1) (pc' := 4) (L' := [some (.ref 23), none, none, none, none]) (st' := [.ref h.length, .ref h.length]) (h' := h_1) (fun _ => rfl) ?_
  have g0 := g_3
  have c0 := c_6
  have b23 := c_5
  have l0 : h_1.length = h.length + 1 := by omega
  refine rt_c rfl rfl (mr_ini c0) ?_
  rintro _ h1 ⟨rfl, g1, sg, ve, ts, z1, z2, z3, Y1⟩
  have l1 := g1.1
  have G1 : gr (fun z => z = 23) 4 40 h h1 := ⟨by omega, by have := g0.2.1; have := g1.2.1; omega, by have := g0.2.2.1; have := g1.2.2.1; omega, fun k hk hn => by rw [g1.2.2.2 k (by omega) (by omega)]; exact g0.2.2.2 k hk hn⟩
  have d23 := gr_at g1 b23 (by omega)
  obtain ⟨S, F, N, y1, -⟩ := id Y1
  refine rt_k (k := 6) (pc' := 15) (L' := [some (.ref 23), some (.ref h.length), some (.int (nI 1)), none, none]) (st' := [.ref h.length]) (h' := h1) (fun _ => rfl) ?_
  refine rt_gf rfl y1 rfl rfl ?_
  refine rt_k (k := 4) (pc' := 26) (L' := [some (.ref 23), some (.ref h.length), some (.int (nI 1)), some (.int (nI 0)), none]) (st' := []) (h' := h1) (fun _ => rfl) ?_
  exact mr_lp h39 W ⟨Nat.le_refl _, by omega, z2, z3⟩ i h1 [] [] (Nat.le_refl _) hi (gr_mo G1 (fun _ q => q) (by omega) (by omega)) d23 (by decide) Y1.l0 none
end MO

