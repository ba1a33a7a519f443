/-! THE REFERENCE, 3: versions read. -/
/-- what every version keeps to -/
def wfV (v : kV) : Prop := nB v ∧ v.2.length ≤ 4 ∧ ∀ m ∈ v.2, okM m = true ∧ m.all mkb = true
def yMf (h : List va_E) (F : Nat → Option Nat) (ms : List kW) : Prop := ∀ (i : Nat) m, ms[i]? = some m → ∃ b, F i = some b ∧ sS h b m
def yM (h : List va_E) (a na ma : Nat) (N : Nat → Int32) (ms : List kW) : Prop := h[a]? = some (.inr (15, [.ref na, .ref ma, .int (nI ms.length)])) ∧ h[na]? = some (.inl (2, 3, .inl N)) ∧ ∃ F : Nat → Option Nat, h[ma]? = some (.inl (9, 4, .inr (.inr (.inr (.inr F))))) ∧ ms.length ≤ 4 ∧ yMf h F ms
def yN (N : Nat → Int32) (v : kV) : Prop := N 0 = nI v.1.1 ∧ N 1 = nI v.1.2.1 ∧ N 2 = nI v.1.2.2
/-- a Version of the reference -/
def yV (h : List va_E) (a : Nat) (v : kV) : Prop := ∃ (na ma : Nat) (N : Nat → Int32) (F : Nat → Option Nat), z_ h a (.inr (15, [.ref na, .ref ma, .int (nI v.2.length)])) ∧ z_ h na (.inl (2, 3, .inl N)) ∧ z_ h ma (.inl (9, 4, .inr (.inr (.inr (.inr F))))) ∧ yN N v ∧ yMf h F v.2 ∧ wfV v
/-- .. whose marks lie behind l -/
def yVl (l : Nat) (h : List va_E) (a : Nat) (v : kV) : Prop := yV h a v ∧ ∃ (na ma : Nat) (x : Value), h[a]? = some (.inr (15, [.ref na, .ref ma, x])) ∧ l ≤ ma
theorem yMf.ex {h h' : List va_E} {F : Nat → Option Nat} {ms : List kW} (E : ex_ h h') (C : yMf h F ms) : yMf h' F ms := fun i m hm => by
  obtain ⟨a, x, y⟩ := C i m hm
  exact ⟨a, x, y.ex E⟩
theorem yV.ex {h h' : List va_E} {a : Nat} {v : kV} (E : ex_ h h') (C : yV h a v) : yV h' a v := by
  obtain ⟨na, ma, N, F, a1, a2, a3, a4, a5, a6⟩ := C
  exact ⟨na, ma, N, F, E _ _ a1, E _ _ a2, E _ _ a3, a4, a5.ex E, a6⟩
theorem yM.gr {h h' : List va_E} {a na ma c s : Nat} {N : Nat → Int32} {ms : List kW} (C : yM h a na ma N ms) (G : gr (fun _ => False) c s h h') : yM h' a na ma N ms := by
  obtain ⟨a1, a2, F, a3, a4, a5⟩ := C
  exact ⟨gr_at G a1 id, gr_at G a2 id, F, gr_at G a3 id, a4, a5.ex (gr_ex G (fun _ _ => id))⟩
theorem mR_wf : ∀ (n i : Nat) (ms : List kW) (r : kW) (m : List kW), ms.length + n = 4 → (∀ x ∈ ms, okM x = true ∧ x.all mkb = true) → mR n i ms r = some m → m.length ≤ 4 ∧ ∀ x ∈ m, okM x = true ∧ x.all mkb = true
  | n, i, ms, [], m, hn, H, e => by
    rw [mR_nil] at e; cases e; exact ⟨by omega, H⟩
  | 0, i, ms, c :: t, m, hn, H, e => by rw [mR] at e; cases e
  | n + 1, i, ms, c :: t, m, hn, H, e => by
    rw [mR] at e
    by_cases q : c = (if i = 0 then 45 else 46) ∧ okM (t.takeWhile mkb) = true
    · rw [if_pos q] at e
      refine mR_wf n (i + 1) _ _ m (by rw [List.length_append]; simp only [List.length_cons, List.length_nil]; omega) (fun x hx => ?_) e
      rcases List.mem_append.mp hx with y | y
      · exact H x y
      · rw [List.mem_singleton.mp y]
        exact ⟨q.2, List.all_eq_true.mpr (tw_all t)⟩
    · rw [if_neg q] at e; cases e
theorem pVer_wf {w : kW} {v : kV} (e : pVer w = some v) : wfV v := by
  refine ⟨pVer_b e, ?_⟩
  rw [pVer_mR] at e
  cases q : pV3 w with
  | none => rw [q] at e; cases e
  | some a =>
    rw [q] at e
    simp only [Option.bind_some] at e
    cases q2 : mR 4 0 [] a.2 with
    | none => rw [q2] at e; cases e
    | some m =>
      rw [q2] at e
      cases e
      exact mR_wf 4 0 [] a.2 m rfl (fun x hx => by cases hx) q2
theorem upd_e {f : Nat → Int32} {i : Nat} {x y : Int32} (e : x = y) : upd f i x i = y := by unfold upd; rw [if_pos rfl]; exact e
section MC
variable {X : Nat × (Nat → Int32)} {d : Nat} {h : List va_E} {Q : Option Value → List va_E → Prop} {w : kW} {o : Nat → Int32} {ws : List kW} {tl nw pa : Int32}
theorem m_ends1 {i a : Nat} {F : Nat → Option Nat} (c23 : h[23]? = some (mo tl (nI ws.length) (nI i) o)) (c25 : h[25]? = some (.inl (9, 400, .inr (.inr (.inr (.inr F)))))) (hw : ws.length ≤ 400) (hi : i < ws.length) (ha : F i = some a) (S : sS h a w) : rt_ X (d + 2) 145 0 [some (.ref 23)] [] h (fun v h' => v = some (.int (tB (isCl w = true))) ∧ h' = h) := by
  obtain ⟨v, x, y, c1, -, hb⟩ := S.at
  have e : isCl w = true ↔ w = tx 0 ∨ w = tx 1 ∨ w = tx 2 := by unfold isCl; rw [decide_eq_true_eq]
  refine rt_k (k := 1) (pc' := 1) (L' := [some (.ref 23)]) (st' := [.ref 23]) (h' := h) (fun _ => rfl) ?_
  refine rt_gf rfl c23 rfl rfl ?_
  refine rt_k (k := 1) (pc' := 5) (L' := [some (.ref 23)]) (st' := [.ref 23, .int (nI i)]) (h' := h) (fun _ => rfl) ?_
  refine rt_gf rfl c23 rfl rfl ?_
  refine rt_ieq rfl (by omega) (by omega) (fun z => absurd z (by omega)) (fun _ => ?_)
  refine rt_k (k := 1) (pc' := 12) (L' := [some (.ref 23)]) (st' := [.ref 23]) (h' := h) (fun _ => rfl) ?_
  refine rt_cvE rfl (by decide) c23 rfl rfl rfl rfl (m_here1 c23 c25 hw hi ha) ?_
  refine rt_k (k := 1) (pc' := 17) (L' := [some (.ref 23)]) (st' := [.retAddr 0, .ref a]) (h' := h) (fun _ => rfl) ?_
  refine rt_cvE rfl (by decide) c1 rfl rfl rfl rfl (ce_0 S) ?_
  refine rt_pn rfl (fun z0 => ?_) (fun z0 => ?_)
  ·
    refine rt_k (k := 2) (pc' := 52) (L' := [some (.ref 23)]) (st' := [.int (nI 1)]) (h' := h) (fun _ => rfl) ?_
    exact rt_r (v := some (.int (nI 1))) rfl rfl (⟨ret1 (e.mpr (Or.inl z0)), rfl⟩)
  refine rt_k (k := 1) (pc' := 24) (L' := [some (.ref 23)]) (st' := [.ref 23]) (h' := h) (fun _ => rfl) ?_
  refine rt_cvE rfl (by decide) c23 rfl rfl rfl rfl (m_here1 c23 c25 hw hi ha) ?_
  refine rt_k (k := 1) (pc' := 29) (L' := [some (.ref 23)]) (st' := [.retAddr 1, .ref a]) (h' := h) (fun _ => rfl) ?_
  refine rt_cvE rfl (by decide) c1 rfl rfl rfl rfl (ce_1 S) ?_
  refine rt_pn rfl (fun z1 => ?_) (fun z1 => ?_)
  ·
    refine rt_k (k := 2) (pc' := 52) (L' := [some (.ref 23)]) (st' := [.int (nI 1)]) (h' := h) (fun _ => rfl) ?_
    exact rt_r (v := some (.int (nI 1))) rfl rfl (⟨ret1 (e.mpr (Or.inr (Or.inl z1))), rfl⟩)
  refine rt_k (k := 1) (pc' := 36) (L' := [some (.ref 23)]) (st' := [.ref 23]) (h' := h) (fun _ => rfl) ?_
  refine rt_cvE rfl (by decide) c23 rfl rfl rfl rfl (m_here1 c23 c25 hw hi ha) ?_
  refine rt_k (k := 1) (pc' := 41) (L' := [some (.ref 23)]) (st' := [.retAddr 2, .ref a]) (h' := h) (fun _ => rfl) ?_
  refine rt_cvE rfl (by decide) c1 rfl rfl rfl rfl (ce_2 S) ?_
  refine rt_pe rfl (fun z2 => ?_) (fun z2 => ?_)
  ·
    refine rt_k (k := 1) (pc' := 52) (L' := [some (.ref 23)]) (st' := [.int (nI 0)]) (h' := h) (fun _ => rfl) ?_
    exact rt_r (v := some (.int (nI 0))) rfl rfl (⟨ret0 (fun q => by rcases e.mp q with y | y | y; exact z0 y; exact z1 y; exact z2 y), rfl⟩)
  refine rt_k (k := 2) (pc' := 52) (L' := [some (.ref 23)]) (st' := [.int (nI 1)]) (h' := h) (fun _ => rfl) ?_
  exact rt_r (v := some (.int (nI 1))) rfl rfl (⟨ret1 (e.mpr (Or.inr (Or.inr z2))), rfl⟩)
theorem m_ends0 {i : Nat} (c23 : h[23]? = some (mo tl (nI ws.length) (nI i) o)) (hw : ws.length ≤ 400) (hi : i = ws.length) : rt_ X d 145 0 [some (.ref 23)] [] h (fun v h' => v = some (.int (tB True)) ∧ h' = h) := by
  refine rt_k (k := 1) (pc' := 1) (L' := [some (.ref 23)]) (st' := [.ref 23]) (h' := h) (fun _ => rfl) ?_
  refine rt_gf rfl c23 rfl rfl ?_
  refine rt_k (k := 1) (pc' := 5) (L' := [some (.ref 23)]) (st' := [.ref 23, .int (nI i)]) (h' := h) (fun _ => rfl) ?_
  refine rt_gf rfl c23 rfl rfl ?_
  refine rt_ieq rfl (by omega) (by omega) (fun _ => ?_) (fun z => absurd z (by omega))
  refine rt_k (k := 2) (pc' := 52) (L' := [some (.ref 23)]) (st' := [.int (nI 1)]) (h' := h) (fun _ => rfl) ?_
  exact rt_r (v := some (.int (nI 1))) rfl rfl (⟨ret1 trivial, rfl⟩)
/-- the end of digits -/
theorem mv_q {wa : Nat} (S : sS h wa w) (f : Int32) (a p k q : Nat) (hpq : p ≤ q) (hq : q ≤ w.length) (hd : ∀ i, p ≤ i → i < q → dg (w.getD i 0) = true) (c : ∀ b, q ≤ b → b ≤ w.length → (∀ i, p ≤ i → i < b → dg (w.getD i 0) = true) → (b = w.length ∨ dg (w.getD b 0) = false) → rt_ X (d + 4) 135 49 [some (.ref wa), some (.int f), some (.ref a), some (.int (nI p)), some (.int (nI k)), some (.int (nI b))] [] h Q) : rt_ X (d + 4) 135 22 [some (.ref wa), some (.int f), some (.ref a), some (.int (nI p)), some (.int (nI k)), some (.int (nI q))] [] h Q := by
  obtain ⟨v, x, y, c1, hl, hb⟩ := S.at
  refine rt_k (k := 2) (pc' := 25) (L' := [some (.ref wa), some (.int f), some (.ref a), some (.int (nI p)), some (.int (nI k)), some (.int (nI q))]) (st' := [.ref wa, .int (nI q)]) (h' := h) (fun _ => rfl) ?_
  refine rt_cvE rfl (by decide) c1 rfl rfl rfl rfl (st_len S) ?_
  refine rt_ige rfl (by omega) (by omega) (fun z => ?_) (fun z => ?_)
  ·
    exact c q (Nat.le_refl _) hq hd (Or.inl (by omega))
  have b1 := getD_lt hb q
  refine rt_k (k := 2) (pc' := 34) (L' := [some (.ref wa), some (.int f), some (.ref a), some (.int (nI p)), some (.int (nI k)), some (.int (nI q))]) (st' := [.int (nI q), .ref wa]) (h' := h) (fun _ => rfl) ?_
  refine rt_cvE rfl (by decide) c1 rfl rfl rfl rfl (st_char S z) ?_
  refine rt_cE rfl rfl (m_digit b1) ?_
  refine rt_pe rfl (fun z1 => ?_) (fun z1 => ?_)
  ·
    exact c q (Nat.le_refl _) hq hd (Or.inr (by simpa using z1))
  refine rt_inc (c := 1) rfl rfl ?_
  refine rt_k (k := 1) (pc' := 22) (L' := [some (.ref wa), some (.int f), some (.ref a), some (.int (nI p)), some (.int (nI k)), some (.int (nI (q + 1)))]) (st' := []) (h' := h) (fun _ => rfl) ?_
  exact mv_q S f a p k (q + 1) (by omega) z (fun i h1 h2 => by
    by_cases e : i = q
    · subst e; exact z1
    · exact hd i h1 (by omega)) (fun b h1 => c b (by omega))
termination_by w.length - q
theorem pNum_sl {p q : Nat} (hpq : p ≤ q) (hq : q ≤ w.length) (hd : ∀ i, p ≤ i → i < q → dg (w.getD i 0) = true) (he : q = w.length ∨ dg (w.getD q 0) = false) : pNum 9 (sl w p w.length) = if okN 9 (sl w p q) = true then some (dv (sl w p q), sl w q w.length) else none := by
  have hw := sl_while (T := w) (P := dg) (b := w.length) (Nat.le_refl _) (q - p) p q rfl hpq hq hd he
  unfold pNum
  rw [hw.1, hw.2]
theorem sVl.ex {h' : List va_E} {v : Value} (E : ex_ h h') (C : sVl h v w) : sVl h' v w := by
  rcases C with ⟨a, e, s⟩ | ⟨e, s⟩
  · exact Or.inl ⟨a, e, s.ex E⟩
  · exact Or.inr ⟨e, s⟩
/-- one of the three numbers -/
theorem mv_num {h0 : List va_E} {wa a na ma : Nat} (h39 : 39 ≤ h.length) (S : sS h wa w) {f : Int32} {N : Nat → Int32} {x5 : Option Value} (V : yM h a na ma N []) (hz : ¬ wa = na) (k p : Nat) (hk : k < 3) (hp : p ≤ w.length) (kn : pNum 9 (sl w p w.length) = none → ∀ q h', p ≤ q → q ≤ w.length → gr (fun z => z = na) 2 (4 + (q - p)) h h' → Q (some .null) h') (ks : ∀ q n h', pNum 9 (sl w p w.length) = some (n, sl w q w.length) → p ≤ q → q ≤ w.length → gr (fun z => z = na) 2 (4 + (q - p)) h h' → yM h' a na ma (upd N k (nI n)) [] → rt_ X (d + 6) 135 80 [some (.ref wa), some (.int f), some (.ref a), some (.int (nI p)), some (.int (nI k)), some (.int (nI q))] [] h' Q) : rt_ X (d + 6) 135 13 [some (.ref wa), some (.int f), some (.ref a), some (.int (nI p)), some (.int (nI k)), x5] [] h Q := by
  obtain ⟨v, x, y, c1, hl, hb⟩ := S.at
  refine rt_k (k := 2) (pc' := 16) (L' := [some (.ref wa), some (.int f), some (.ref a), some (.int (nI p)), some (.int (nI k)), x5]) (st' := [.int (nI 3), .int (nI k)]) (h' := h) (fun _ => by first | rfl | (cases x5 <;> rfl)) ?_
  refine rt_ige rfl (by omega) (by decide) (fun z => absurd z (by omega)) (fun _ => ?_)
  refine rt_k (k := 2) (pc' := 22) (L' := [some (.ref wa), some (.int f), some (.ref a), some (.int (nI p)), some (.int (nI k)), some (.int (nI p))]) (st' := []) (h' := h) (fun _ => by first | rfl | (cases x5 <;> rfl)) ?_
  refine mv_q (d := d + 2) S f a p k p (Nat.le_refl _) hp (fun i h1 h2 => by omega) (fun q h1 hq2 h3 h4 => ?_)
  have eN := pNum_sl h1 hq2 h3 h4
  have ll : (sl w p q).length = q - p := sl_len hq2
  have al : (sl w p q).all dg = true := List.all_eq_true.mpr (sl_allP hq2 h3)
  obtain ⟨V1, V2, F, V3, V4, V5⟩ := id V
  refine rt_k (k := 1) (pc' := 50) (L' := [some (.ref wa), some (.int f), some (.ref a), some (.int (nI p)), some (.int (nI k)), some (.int (nI q))]) (st' := [.ref a]) (h' := h) (fun _ => rfl) ?_
  refine rt_gf rfl V1 rfl rfl ?_
  refine rt_k (k := 4) (pc' := 59) (L' := [some (.ref wa), some (.int f), some (.ref a), some (.int (nI p)), some (.int (nI k)), some (.int (nI q))]) (st' := [.int (nI q), .int (nI p), .ref wa, .int (nI k), .ref na]) (h' := h) (fun _ => rfl) ?_
  refine rt_cv rfl (by decide) c1 rfl rfl rfl rfl (st_sub S h1 hq2 h39) ?_
  rintro _ h1' ⟨m, rfl, g1, g2⟩
  have W := V.gr g1
  obtain ⟨W1, W2, F', W3, W4, W5⟩ := id W
  have g1' : gr (fun z => z = na) 2 (4 + (q - p)) h h1' := gr_mo g1 (fun _ q => absurd q id) (by omega) (by omega)
  suffices cont : rt_ X (d + 6) 135 67 [some (.ref wa), some (.int f), some (.ref a), some (.int (nI p)), some (.int (nI k)), some (.int (nI q))] [.int (nmN 9 (sl w p q)), .int (nI k), .ref na] h1' Q by
    rcases g2 with ⟨am, rfl, sm⟩ | ⟨rfl, e0⟩
    · have t0 := trivial
      refine rt_k (k := 1) (pc' := 64) (L' := [some (.ref wa), some (.int f), some (.ref a), some (.int (nI p)), some (.int (nI k)), some (.int (nI q))]) (st' := [.int (nI 9), .ref am, .int (nI k), .ref na]) (h' := h1') (fun _ => rfl) ?_
      refine rt_cE rfl rfl (m_number sm (m := 9) (by omega)) ?_
      exact cont
    · have t0 := trivial
      rw [e0] at cont
      refine rt_k (k := 1) (pc' := 64) (L' := [some (.ref wa), some (.int f), some (.ref a), some (.int (nI p)), some (.int (nI k)), some (.int (nI q))]) (st' := [.int (nI 9), .retAddr 5, .int (nI k), .ref na]) (h' := h1') (fun _ => rfl) ?_
      refine rt_cE rfl rfl (m_number0 (m := 9)) ?_
      exact cont
  refine rt_iasN rfl W2 rfl (by omega) (by decide) ?_
  refine rt_nm (fun h_1 e_2 => ?_)
  have f_3 : fr_ (fun z => z = na) h1' h_1 := by rw [e_2]; exact fr_set (e' := .inl (2, 3, .inl (upd N k (nmN 9 (sl w p q))))) W2 (by rfl) (by first | decide | simp)
  have n_4 : h_1.length = h1'.length := by rw [e_2]; simp
  have c_5 : h_1[na]? = some (.inl (2, 3, .inl (upd N k (nmN 9 (sl w p q))))) := by rw [e_2]; exact hs_self W2
  have c_6 : h_1[a]? = some (.inr (15, [.ref na, .ref ma, .int (nI 0)])) := by rw [e_2]; exact hs_ne W1 (hc_ne W2 W1 (by intro q; cases q))
  have c_7 : h_1[ma]? = some (.inl (9, 4, .inr (.inr (.inr (.inr F'))))) := by rw [e_2]; exact hs_ne W3 (hc_ne W2 W3 (by intro q; cases q))
  have G := gr_mo (gr_tr g1' (gr_fr f_3)) (fun _ q => q) (show 2 + 0 ≤ 2 by omega) (show 4 + (q - p) + 0 ≤ 4 + (q - p) by omega)
  have Y : yM h_1 a na ma (upd N k (nmN 9 (sl w p q))) [] := ⟨c_6, c_5, _, c_7, Nat.zero_le _, fun i m hm => by cases hm⟩
  have k1 := c_5
  have k2 := c_6
  generalize h_1 = h2 at *
  by_cases ok : okN 9 (sl w p q) = true
  · have e2 : nmN 9 (sl w p q) = nI (dv (sl w p q)) := by unfold nmN; rw [if_pos ⟨al, ok⟩]
    rw [if_pos ok] at eN
    have dl : dv (sl w p q) < 10 ^ 9 := dv_b (sl_allP hq2 h3) (by unfold okN at ok; simp only [Bool.and_eq_true, decide_eq_true_eq] at ok; exact ok.1.2)
    refine rt_k (k := 1) (pc' := 69) (L' := [some (.ref wa), some (.int f), some (.ref a), some (.int (nI p)), some (.int (nI k)), some (.int (nI q))]) (st' := [.ref a]) (h' := h2) (fun _ => rfl) ?_
    refine rt_gf rfl k2 rfl rfl ?_
    refine rt_k (k := 1) (pc' := 74) (L' := [some (.ref wa), some (.int f), some (.ref a), some (.int (nI p)), some (.int (nI k)), some (.int (nI q))]) (st' := [.int (nI k), .ref na]) (h' := h2) (fun _ => rfl) ?_
    refine rt_ialN rfl k1 rfl (by omega) (by decide) (upd_e e2) ?_
    refine rt_zge rfl (by omega) ?_
    exact ks q _ h2 eN h1 (by assumption) G (by rw [← e2]; exact Y)
  · have e2 : nmN 9 (sl w p q) = (-1) := by unfold nmN; rw [if_neg (fun y => ok y.2)]
    rw [if_neg ok] at eN
    refine rt_k (k := 1) (pc' := 69) (L' := [some (.ref wa), some (.int f), some (.ref a), some (.int (nI p)), some (.int (nI k)), some (.int (nI q))]) (st' := [.ref a]) (h' := h2) (fun _ => rfl) ?_
    refine rt_gf rfl k2 rfl rfl ?_
    refine rt_k (k := 1) (pc' := 74) (L' := [some (.ref wa), some (.int f), some (.ref a), some (.int (nI p)), some (.int (nI k)), some (.int (nI q))]) (st' := [.int (nI k), .ref na]) (h' := h2) (fun _ => rfl) ?_
    refine rt_ialN rfl k1 rfl (by omega) (by decide) (upd_e e2) ?_
    refine rt_k (k := 2) (pc' := 79) (L' := [some (.ref wa), some (.int f), some (.ref a), some (.int (nI p)), some (.int (nI k)), some (.int (nI q))]) (st' := [.null]) (h' := h2) (fun _ => rfl) ?_
    exact rt_r (v := some (.null)) rfl rfl (kn eN q h2 h1 hq2 G)
end MC

