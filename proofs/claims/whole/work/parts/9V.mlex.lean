/-! THE ORDER OF WORDS: letter by letter, and as numbers. -/
theorem lI_toI {n : Nat} (h : n < 9223372036854775808) : (lI n).toInt = n := by
  unfold lI
  rw [Int64.toInt_ofNat_of_lt (by omega)]
theorem lI_ltI {a b : Nat} (ha : a < 9223372036854775808) (hb : b < 9223372036854775808) : lI a < lI b ↔ a < b := by
  rw [Int64.lt_iff_toInt_lt, lI_toI ha, lI_toI hb]; omega
theorem lI_eqI {a b : Nat} (ha : a < 9223372036854775808) (hb : b < 9223372036854775808) : lI a = lI b ↔ a = b := by
  rw [← Int64.toInt_inj, lI_toI ha, lI_toI hb]; omega
theorem pk_mono {a b : kW} (ha : ∀ c ∈ a, c < 256) (hb : ∀ c ∈ b, c < 256) {n : Nat} (h : pk a n < pk b n) : ∀ k, pk a (n + k) < pk b (n + k)
  | 0 => h
  | k + 1 => by
    have ih := pk_mono ha hb h k
    show pk a (n + k) * 256 + a.getD (n + k) 0 < pk b (n + k) * 256 + b.getD (n + k) 0
    have := getD_lt ha (n + k)
    omega
theorem pk_ltk {a b : kW} (ha : ∀ c ∈ a, c < 256) (hb : ∀ c ∈ b, c < 256) {k : Nat} (hk : k < 8) (e : ∀ j, j < k → a.getD j 0 = b.getD j 0) (l : a.getD k 0 < b.getD k 0) : pk a 8 < pk b 8 := by
  have h1 : pk a (k + 1) < pk b (k + 1) := by
    show pk a k * 256 + a.getD k 0 < pk b k * 256 + b.getD k 0
    rw [pk_cg k e]; omega
  have := pk_mono ha hb h1 (7 - k)
  rwa [show k + 1 + (7 - k) = 8 by omega] at this
/-- words that are told apart by their numbers -/
def smW (w : kW) : Prop := w.length ≤ 8 ∧ ∀ c ∈ w, 0 < c ∧ c < 128
theorem smW.lt {w : kW} (h : smW w) : ∀ c ∈ w, c < 256 := fun c hc => by have := h.2 c hc; omega
theorem pk_8 {w : kW} (h : smW w) : pk w 8 < 9223372036854775808 := by
  have b : ∀ i, w.getD i 0 < 128 := fun i => by
    rw [List.getD_eq_getElem?_getD]
    cases q : w[i]? with
    | none => decide
    | some c => exact (h.2 c (gt_in q)).2
  simp only [pk]
  have := b 0; have := b 1; have := b 2; have := b 3; have := b 4; have := b 5; have := b 6; have := b 7
  omega
theorem getD_ge {w : kW} {i : Nat} (h : w.length ≤ i) : w.getD i 0 = 0 := by
  rw [List.getD_eq_getElem?_getD, List.getElem?_eq_none h]; rfl
theorem smW.pos {w : kW} (h : smW w) {i : Nat} (hi : i < w.length) : 0 < w.getD i 0 := by
  rw [List.getD_eq_getElem?_getD, List.getElem?_eq_getElem hi]
  exact (h.2 _ (List.getElem_mem hi)).1
def sg3 (x : Int32) (u v : Int64) : Prop := (u < v ∧ x < 0) ∨ (u = v ∧ x = 0) ∨ (v < u ∧ 0 < x)
theorem nI_int {a : Nat} (h : a < 2147483648) : (nI a).toInt = a := nI_toInt h
theorem sub_toI {a b : Nat} (ha : a < 1073741824) (hb : b < 1073741824) : (nI a - nI b).toInt = (a : Int) - b := by
  rw [Int32.toInt_sub, nI_int (by omega), nI_int (by omega)]
  exact Int.bmod_eq_of_le (by omega) (by omega)
theorem sub_lt0 {a b : Nat} (ha : a < 1073741824) (hb : b < 1073741824) : nI a - nI b < 0 ↔ a < b := by
  rw [Int32.lt_iff_toInt_lt, sub_toI ha hb, show (0 : Int32).toInt = 0 by decide]; omega
theorem sub_gt0 {a b : Nat} (ha : a < 1073741824) (hb : b < 1073741824) : 0 < nI a - nI b ↔ b < a := by
  rw [Int32.lt_iff_toInt_lt, sub_toI ha hb, show (0 : Int32).toInt = 0 by decide]; omega
theorem sg3_sub {a b : Nat} {u v : Int64} (ha : a < 1073741824) (hb : b < 1073741824) (h1 : a < b → u < v) (h2 : a = b → u = v) (h3 : b < a → v < u) : sg3 (nI a - nI b) u v := by
  rcases Nat.lt_trichotomy a b with q | q | q
  · exact Or.inl ⟨h1 q, (sub_lt0 ha hb).mpr q⟩
  · exact Or.inr (Or.inl ⟨h2 q, by rw [q]; exact Int32.sub_self _⟩)
  · exact Or.inr (Or.inr ⟨h3 q, (sub_gt0 ha hb).mpr q⟩)
theorem nmI_ltk {a b : kW} (ha : smW a) (hb : smW b) {k : Nat} (hk : k < 8) (e : ∀ j, j < k → a.getD j 0 = b.getD j 0) (l : a.getD k 0 < b.getD k 0) : nmI a < nmI b := (lI_ltI (pk_8 ha) (pk_8 hb)).mpr (pk_ltk ha.lt hb.lt hk e l)
theorem nmI_inj {a b : kW} (ha : smW a) (hb : smW b) (h : nmI a = nmI b) : a = b := by
  by_cases q : ∀ j, j < 8 → a.getD j 0 = b.getD j 0
  · have l1 : a.length = b.length := by
      rcases Nat.lt_trichotomy a.length b.length with y | y | y
      · have := q a.length (by have := hb.1; omega)
        rw [getD_ge (Nat.le_refl _)] at this
        have := hb.pos y; omega
      · exact y
      · have := q b.length (by have := ha.1; omega)
        rw [getD_ge (w := b) (Nat.le_refl _)] at this
        have := ha.pos y; omega
    exact w_ext l1 (fun i hi => q i (by have := ha.1; omega))
  · exfalso
    have ⟨k, hk, l, m⟩ : ∃ k, k < 8 ∧ (∀ j, j < k → a.getD j 0 = b.getD j 0) ∧ ¬ a.getD k 0 = b.getD k 0 := by
      have aux : ∀ n, n ≤ 8 → (∀ j, j < n → a.getD j 0 = b.getD j 0) ∨ ∃ k, k < n ∧ (∀ j, j < k → a.getD j 0 = b.getD j 0) ∧ ¬ a.getD k 0 = b.getD k 0 := by
        intro n
        induction n with
        | zero => exact fun _ => Or.inl (fun j hj => absurd hj (Nat.not_lt_zero _))
        | succ n ih =>
          intro hn
          rcases ih (by omega) with y | ⟨k, y1, y2⟩
          · by_cases z : a.getD n 0 = b.getD n 0
            · exact Or.inl (fun j hj => by
                by_cases w : j = n
                · rw [w]; exact z
                · exact y j (by omega))
            · exact Or.inr ⟨n, by omega, y, z⟩
          · exact Or.inr ⟨k, by omega, y2⟩
      rcases aux 8 (Nat.le_refl _) with y | ⟨k, y1, y2, y3⟩
      · exact absurd y q
      · exact ⟨k, y1, y2, y3⟩
    rcases Nat.lt_or_gt_of_ne m with y | y
    · have := nmI_ltk ha hb hk l y
      rw [h] at this; exact Int64.lt_irrefl this
    · have := nmI_ltk hb ha hk (fun j hj => (l j hj).symm) y
      rw [h] at this; exact Int64.lt_irrefl this
/-- words that are alike so far, one at its end -/
theorem nmI_end {a b : kW} (ha : smW a) (hb : smW b) {k : Nat} (h1 : k ≤ a.length) (h2 : k ≤ b.length) (e : ∀ j, j < k → a.getD j 0 = b.getD j 0) (hk : a.length ≤ k ∨ b.length ≤ k) : sg3 (nI a.length - nI b.length) (nmI a) (nmI b) := by
  have := ha.1; have := hb.1
  refine sg3_sub (by omega) (by omega) (fun q => ?_) (fun q => ?_) (fun q => ?_)
  · have ek : k = a.length := by omega
    subst ek
    exact nmI_ltk ha hb (by omega) e (by rw [getD_ge (Nat.le_refl _)]; exact hb.pos q)
  · rw [w_ext q (fun i hi => e i (by omega))]
  · have ek : k = b.length := by omega
    subst ek
    exact nmI_ltk hb ha (by omega) (fun j hj => (e j hj).symm) (by rw [getD_ge (w := b) (Nat.le_refl _)]; exact ha.pos q)
section MG
variable {X : Nat × (Nat → Int32)} {d : Nat} {h : List va_E} {Q : Option Value → List va_E → Prop} {a b : kW} {aa ba : Nat}
theorem m_mk1 (A : sS h aa a) (B : sS h ba b) (ha : smW a) (hb : smW b) (x y : Int32) (i : Nat) (h1 : i ≤ a.length) (h2 : i ≤ b.length) (e : ∀ j, j < i → a.getD j 0 = b.getD j 0) : rt_ X (d + 4) 149 50 [some (.ref aa), some (.ref ba), some (.int x), some (.int y), some (.int (nI i))] [] h (fun v h' => h' = h ∧ ∃ x, v = some (.int x) ∧ sg3 x (nmI a) (nmI b)) := by
  obtain ⟨va, xa, ya, ca, hla, hba⟩ := A.at
  obtain ⟨vb, xb, yb, cb, hlb, hbb⟩ := B.at
  have fin : (a.length ≤ i ∨ b.length ≤ i) → rt_ X (d + 4) 149 103 [some (.ref aa), some (.ref ba), some (.int x), some (.int y), some (.int (nI i))] [] h (fun v h' => h' = h ∧ ∃ x, v = some (.int x) ∧ sg3 x (nmI a) (nmI b)) := fun q => by
    refine rt_k (k := 1) (pc' := 104) (L' := [some (.ref aa), some (.ref ba), some (.int x), some (.int y), some (.int (nI i))]) (st' := [.ref aa]) (h' := h) (fun _ => rfl) ?_
    refine rt_cvE rfl (by decide) ca rfl rfl rfl rfl (st_len A) ?_
    refine rt_k (k := 1) (pc' := 108) (L' := [some (.ref aa), some (.ref ba), some (.int x), some (.int y), some (.int (nI i))]) (st' := [.ref ba, .int (nI a.length)]) (h' := h) (fun _ => rfl) ?_
    refine rt_cvE rfl (by decide) cb rfl rfl rfl rfl (st_len B) ?_
    refine rt_k (k := 1) (pc' := 112) (L' := [some (.ref aa), some (.ref ba), some (.int x), some (.int y), some (.int (nI i))]) (st' := [.int ((nI a.length) - (nI b.length))]) (h' := h) (fun _ => rfl) ?_
    exact rt_r (v := some (.int ((nI a.length) - (nI b.length)))) rfl rfl (⟨rfl, _, rfl, nmI_end ha hb h1 h2 e q⟩)
  refine rt_k (k := 2) (pc' := 53) (L' := [some (.ref aa), some (.ref ba), some (.int x), some (.int y), some (.int (nI i))]) (st' := [.ref aa, .int (nI i)]) (h' := h) (fun _ => rfl) ?_
  refine rt_cvE rfl (by decide) ca rfl rfl rfl rfl (st_len A) ?_
  refine rt_ige rfl (by omega) (by omega) (fun z1 => ?_) (fun z1 => ?_)
  ·
    exact fin (Or.inl z1)
  refine rt_k (k := 2) (pc' := 62) (L' := [some (.ref aa), some (.ref ba), some (.int x), some (.int y), some (.int (nI i))]) (st' := [.ref ba, .int (nI i)]) (h' := h) (fun _ => rfl) ?_
  refine rt_cvE rfl (by decide) cb rfl rfl rfl rfl (st_len B) ?_
  refine rt_ige rfl (by omega) (by omega) (fun z2 => ?_) (fun z2 => ?_)
  ·
    exact fin (Or.inr z2)
  have b1 := getD_lt hba i
  have b2 := getD_lt hbb i
  refine rt_k (k := 2) (pc' := 71) (L' := [some (.ref aa), some (.ref ba), some (.int x), some (.int y), some (.int (nI i))]) (st' := [.int (nI i), .ref aa]) (h' := h) (fun _ => rfl) ?_
  refine rt_cvE rfl (by decide) ca rfl rfl rfl rfl (st_char A z1) ?_
  refine rt_k (k := 2) (pc' := 77) (L' := [some (.ref aa), some (.ref ba), some (.int x), some (.int y), some (.int (nI i))]) (st' := [.int (nI i), .ref ba, .int (nI (a.getD i 0))]) (h' := h) (fun _ => rfl) ?_
  refine rt_cvE rfl (by decide) cb rfl rfl rfl rfl (st_char B z2) ?_
  refine rt_ieq rfl (by omega) (by omega) (fun z3 => ?_) (fun z3 => ?_)
  rotate_left
  ·
    refine rt_k (k := 2) (pc' := 86) (L' := [some (.ref aa), some (.ref ba), some (.int x), some (.int y), some (.int (nI i))]) (st' := [.int (nI i), .ref aa]) (h' := h) (fun _ => rfl) ?_
    refine rt_cvE rfl (by decide) ca rfl rfl rfl rfl (st_char A z1) ?_
    refine rt_k (k := 2) (pc' := 92) (L' := [some (.ref aa), some (.ref ba), some (.int x), some (.int y), some (.int (nI i))]) (st' := [.int (nI i), .ref ba, .int (nI (a.getD i 0))]) (h' := h) (fun _ => rfl) ?_
    refine rt_cvE rfl (by decide) cb rfl rfl rfl rfl (st_char B z2) ?_
    refine rt_k (k := 1) (pc' := 96) (L' := [some (.ref aa), some (.ref ba), some (.int x), some (.int y), some (.int (nI i))]) (st' := [.int ((nI (a.getD i 0)) - (nI (b.getD i 0)))]) (h' := h) (fun _ => rfl) ?_
    exact rt_r (v := some (.int ((nI (a.getD i 0)) - (nI (b.getD i 0))))) rfl rfl (⟨rfl, _, rfl, sg3_sub (by omega) (by omega) (fun q => nmI_ltk ha hb (by have := ha.1; omega) e q) (fun q => absurd q z3) (fun q => nmI_ltk hb ha (by have := ha.1; omega) (fun j hj => (e j hj).symm) q)⟩)
  refine rt_inc (c := 1) rfl rfl ?_
  refine rt_k (k := 1) (pc' := 50) (L' := [some (.ref aa), some (.ref ba), some (.int x), some (.int y), some (.int (nI (i + 1)))]) (st' := []) (h' := h) (fun _ => rfl) ?_
  exact m_mk1 A B ha hb x y (i + 1) z1 z2 (fun j hj => by
    by_cases q : j = i
    · subst q; exact z3
    · exact e j (by omega))
termination_by a.length - i
theorem m_al1 (A : sS h aa a) (B : sS h ba b) (ha : smW a) (hb : smW b) (i : Nat) (h1 : i ≤ a.length) (h2 : i ≤ b.length) (e : ∀ j, j < i → a.getD j 0 = b.getD j 0) : rt_ X (d + 4) 151 2 [some (.ref aa), some (.ref ba), some (.int (nI i))] [] h (fun v h' => h' = h ∧ ∃ x, v = some (.int x) ∧ sg3 x (nmI a) (nmI b)) := by
  obtain ⟨va, xa, ya, ca, hla, hba⟩ := A.at
  obtain ⟨vb, xb, yb, cb, hlb, hbb⟩ := B.at
  have fin : (a.length ≤ i ∨ b.length ≤ i) → rt_ X (d + 4) 151 49 [some (.ref aa), some (.ref ba), some (.int (nI i))] [] h (fun v h' => h' = h ∧ ∃ x, v = some (.int x) ∧ sg3 x (nmI a) (nmI b)) := fun q => by
    refine rt_k (k := 1) (pc' := 50) (L' := [some (.ref aa), some (.ref ba), some (.int (nI i))]) (st' := [.ref aa]) (h' := h) (fun _ => rfl) ?_
    refine rt_cvE rfl (by decide) ca rfl rfl rfl rfl (st_len A) ?_
    refine rt_k (k := 1) (pc' := 54) (L' := [some (.ref aa), some (.ref ba), some (.int (nI i))]) (st' := [.ref ba, .int (nI a.length)]) (h' := h) (fun _ => rfl) ?_
    refine rt_cvE rfl (by decide) cb rfl rfl rfl rfl (st_len B) ?_
    refine rt_k (k := 1) (pc' := 58) (L' := [some (.ref aa), some (.ref ba), some (.int (nI i))]) (st' := [.int ((nI a.length) - (nI b.length))]) (h' := h) (fun _ => rfl) ?_
    exact rt_r (v := some (.int ((nI a.length) - (nI b.length)))) rfl rfl (⟨rfl, _, rfl, nmI_end ha hb h1 h2 e q⟩)
  refine rt_k (k := 2) (pc' := 4) (L' := [some (.ref aa), some (.ref ba), some (.int (nI i))]) (st' := [.ref aa, .int (nI i)]) (h' := h) (fun _ => rfl) ?_
  refine rt_cvE rfl (by decide) ca rfl rfl rfl rfl (st_len A) ?_
  refine rt_ige rfl (by omega) (by omega) (fun z1 => ?_) (fun z1 => ?_)
  ·
    exact fin (Or.inl z1)
  refine rt_k (k := 2) (pc' := 12) (L' := [some (.ref aa), some (.ref ba), some (.int (nI i))]) (st' := [.ref ba, .int (nI i)]) (h' := h) (fun _ => rfl) ?_
  refine rt_cvE rfl (by decide) cb rfl rfl rfl rfl (st_len B) ?_
  refine rt_ige rfl (by omega) (by omega) (fun z2 => ?_) (fun z2 => ?_)
  ·
    exact fin (Or.inr z2)
  have b1 := getD_lt hba i
  have b2 := getD_lt hbb i
  refine rt_k (k := 2) (pc' := 20) (L' := [some (.ref aa), some (.ref ba), some (.int (nI i))]) (st' := [.int (nI i), .ref aa]) (h' := h) (fun _ => rfl) ?_
  refine rt_cvE rfl (by decide) ca rfl rfl rfl rfl (st_char A z1) ?_
  refine rt_k (k := 2) (pc' := 25) (L' := [some (.ref aa), some (.ref ba), some (.int (nI i))]) (st' := [.int (nI i), .ref ba, .int (nI (a.getD i 0))]) (h' := h) (fun _ => rfl) ?_
  refine rt_cvE rfl (by decide) cb rfl rfl rfl rfl (st_char B z2) ?_
  refine rt_ieq rfl (by omega) (by omega) (fun z3 => ?_) (fun z3 => ?_)
  rotate_left
  ·
    refine rt_k (k := 2) (pc' := 33) (L' := [some (.ref aa), some (.ref ba), some (.int (nI i))]) (st' := [.int (nI i), .ref aa]) (h' := h) (fun _ => rfl) ?_
    refine rt_cvE rfl (by decide) ca rfl rfl rfl rfl (st_char A z1) ?_
    refine rt_k (k := 2) (pc' := 38) (L' := [some (.ref aa), some (.ref ba), some (.int (nI i))]) (st' := [.int (nI i), .ref ba, .int (nI (a.getD i 0))]) (h' := h) (fun _ => rfl) ?_
    refine rt_cvE rfl (by decide) cb rfl rfl rfl rfl (st_char B z2) ?_
    refine rt_k (k := 1) (pc' := 42) (L' := [some (.ref aa), some (.ref ba), some (.int (nI i))]) (st' := [.int ((nI (a.getD i 0)) - (nI (b.getD i 0)))]) (h' := h) (fun _ => rfl) ?_
    exact rt_r (v := some (.int ((nI (a.getD i 0)) - (nI (b.getD i 0))))) rfl rfl (⟨rfl, _, rfl, sg3_sub (by omega) (by omega) (fun q => nmI_ltk ha hb (by have := ha.1; omega) e q) (fun q => absurd q z3) (fun q => nmI_ltk hb ha (by have := ha.1; omega) (fun j hj => (e j hj).symm) q)⟩)
  refine rt_inc (c := 1) rfl rfl ?_
  refine rt_k (k := 1) (pc' := 2) (L' := [some (.ref aa), some (.ref ba), some (.int (nI (i + 1)))]) (st' := []) (h' := h) (fun _ => rfl) ?_
  exact m_al1 A B ha hb (i + 1) z1 z2 (fun j hj => by
    by_cases q : j = i
    · subst q; exact z3
    · exact e j (by omega))
termination_by a.length - i
theorem m_alphabet (A : sS h aa a) (B : sS h ba b) (ha : smW a) (hb : smW b) : rt_ X (d + 4) 151 0 [some (.ref aa), some (.ref ba), none] [] h (fun v h' => h' = h ∧ ∃ x, v = some (.int x) ∧ sg3 x (nmI a) (nmI b)) := by
  refine rt_k (k := 2) (pc' := 2) (L' := [some (.ref aa), some (.ref ba), some (.int (nI 0))]) (st' := []) (h' := h) (fun _ => rfl) ?_
  exact m_al1 A B ha hb 0 (Nat.zero_le _) (Nat.zero_le _) (fun j hj => absurd hj (Nat.not_lt_zero _))
end MG

