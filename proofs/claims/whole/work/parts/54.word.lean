/-! THE READER's nextWord. rd: its cell. -/
theorem tp_set {h : List va_E} {t q k : Nat} {T : List Nat} {e : va_E} (P : tp_ h t q T) (h1 : k ≠ t) (h2 : k ≠ q) : tp_ (h.set k e) t q T := by
  obtain ⟨p1, ⟨f, p2, p3⟩, p4, p5⟩ := P
  exact ⟨by rw [List.getElem?_set_ne h1]; exact p1, ⟨f, by rw [List.getElem?_set_ne h2]; exact p2, p3⟩, p4, p5⟩
/-- from place i on: behind the blanks -/
def wd_b (T : List Nat) : Nat → Nat → Nat
  | 0, i => i
  | n + 1, i => if i < T.length ∧ T.getD i 0 = 32 then wd_b T n (i + 1) else i
/-- from place i on: behind what is no blank -/
def wd_w (T : List Nat) : Nat → Nat → Nat
  | 0, i => i
  | n + 1, i => if i < T.length ∧ ¬ T.getD i 0 = 32 then wd_w T n (i + 1) else i
theorem wd_b_le (T : List Nat) : ∀ n i, i ≤ T.length → wd_b T n i ≤ T.length
  | 0, i, h => h
  | n + 1, i, h => by
    unfold wd_b
    split
    · next z => exact wd_b_le T n (i + 1) z.1
    · exact h
theorem wd_w_le (T : List Nat) : ∀ n i, i ≤ T.length → wd_w T n i ≤ T.length
  | 0, i, h => h
  | n + 1, i, h => by
    unfold wd_w
    split
    · next z => exact wd_w_le T n (i + 1) z.1
    · exact h
abbrev rd_c (t f b : Nat) (a : Value) : va_E := .inr (2, [.ref t, .int (nI f), .int (nI b), a])
theorem tp_cN {T : List Nat} {i : Nat} (h : i < T.length) (hT : T.length ≤ 400) : tp_c T (nI i) = T.getD i 0 := by
  unfold tp_c
  rw [nI_toInt (by omega), if_pos (by omega)]
  rfl
section NW
variable {X : Nat × (Nat → Int32)} {d rd t q b f : Nat} {T : List Nat} {h : List va_E} {a : Value} {Q : Option Value → List va_E → Prop}
theorem nw_1 (hrd : rd < h.length) (h1 : rd ≠ t) (h2 : rd ≠ q) (P : tp_ h t q T) : ∀ (n f : Nat), f ≤ T.length → T.length - f < n → rt_ X (d + 1) 21 51 [some (.ref rd)] [] (h.set rd (rd_c t (wd_b T n f) b a)) Q → rt_ X (d + 1) 21 8 [some (.ref rd)] [] (h.set rd (rd_c t f b a)) Q := by
  have hT := P.2.2.1
  intro n
  induction n with
  | zero => intro f _ hn; omega
  | succ n ih =>
    intro f hf hn k
    have c1 : (h.set rd (rd_c t f b a))[rd]? = some (rd_c t f b a) := List.getElem?_set_self hrd
    have P1 := tp_set (e := rd_c t f b a) P h1 h2
    refine rt_n rfl ?_
    refine rt_gf rfl c1 rfl rfl ?_
    refine rt_n rfl ?_
    refine rt_gf rfl c1 rfl rfl ?_
    refine rt_cv rfl (by decide) P1.1 rfl rfl rfl rfl (tp_size P1) ?_
    rintro v g1 ⟨rfl, rfl⟩
    refine rt_ic rfl (fun z => ?_) (fun z => ?_)
    · have z1 : nI T.length ≤ nI f := of_decide_eq_true z
      rw [nI_leI (by omega) (by omega)] at z1
      unfold wd_b at k
      rw [if_neg (by omega)] at k
      exact k
    · have z1 : ¬ nI T.length ≤ nI f := of_decide_eq_false z
      rw [nI_leI (by omega) (by omega)] at z1
      have hlt : f < T.length := by omega
      refine rt_n rfl ?_
      refine rt_gf rfl c1 rfl rfl ?_
      refine rt_n rfl ?_
      refine rt_gf rfl c1 rfl rfl ?_
      refine rt_cv rfl (by decide) P1.1 rfl rfl rfl rfl (tp_at P1 (nI f)) ?_
      rintro v g2 ⟨rfl, rfl⟩
      have hb : T.getD f 0 < 256 := by
        rw [List.getD_eq_getElem?_getD, List.getElem?_eq_getElem hlt]
        exact P.2.2.2 _ (List.getElem_mem hlt)
      rw [tp_cN hlt hT]
      refine rt_n rfl ?_
      refine rt_ic rfl (fun w => ?_) (fun w => ?_)
      · have w1 : ¬ nI (T.getD f 0) = nI 32 := i_ne2 w
        unfold wd_b at k
        rw [if_neg (fun y => w1 (by rw [y.2]))] at k
        exact k
      · have w1 : nI (T.getD f 0) = nI 32 := i_eq2 w
        rw [nI_eq (by omega) (by omega)] at w1
        unfold wd_b at k
        rw [if_pos ⟨hlt, w1⟩] at k
        refine rt_n rfl ?_
        refine rt_n rfl ?_
        refine rt_gf rfl c1 rfl rfl ?_
        refine rt_n rfl ?_
        refine rt_n rfl ?_
        refine rt_pf rfl c1 ⟨rfl, (show 1 < 4 by decide), rfl⟩ ?_
        refine rt_n rfl ?_
        have e1 : nI f + Int32.ofInt 1 = nI (f + 1) := nI_add f 1
        rw [List.set_set, e1]
        exact ih (f + 1) (by omega) (by omega) k
theorem nw_2 (hrd : rd < h.length) (h1 : rd ≠ t) (h2 : rd ≠ q) (P : tp_ h t q T) : ∀ (n b : Nat), b ≤ T.length → T.length - b < n → rt_ X (d + 1) 21 102 [some (.ref rd)] [] (h.set rd (rd_c t f (wd_w T n b) a)) Q → rt_ X (d + 1) 21 59 [some (.ref rd)] [] (h.set rd (rd_c t f b a)) Q := by
  have hT := P.2.2.1
  intro n
  induction n with
  | zero => intro b _ hn; omega
  | succ n ih =>
    intro b hf hn k
    have c1 : (h.set rd (rd_c t f b a))[rd]? = some (rd_c t f b a) := List.getElem?_set_self hrd
    have P1 := tp_set (e := rd_c t f b a) P h1 h2
    refine rt_n rfl ?_
    refine rt_gf rfl c1 rfl rfl ?_
    refine rt_n rfl ?_
    refine rt_gf rfl c1 rfl rfl ?_
    refine rt_cv rfl (by decide) P1.1 rfl rfl rfl rfl (tp_size P1) ?_
    rintro v g1 ⟨rfl, rfl⟩
    refine rt_ic rfl (fun z => ?_) (fun z => ?_)
    · have z1 : nI T.length ≤ nI b := of_decide_eq_true z
      rw [nI_leI (by omega) (by omega)] at z1
      unfold wd_w at k
      rw [if_neg (by omega)] at k
      exact k
    · have z1 : ¬ nI T.length ≤ nI b := of_decide_eq_false z
      rw [nI_leI (by omega) (by omega)] at z1
      have hlt : b < T.length := by omega
      refine rt_n rfl ?_
      refine rt_gf rfl c1 rfl rfl ?_
      refine rt_n rfl ?_
      refine rt_gf rfl c1 rfl rfl ?_
      refine rt_cv rfl (by decide) P1.1 rfl rfl rfl rfl (tp_at P1 (nI b)) ?_
      rintro v g2 ⟨rfl, rfl⟩
      have hb : T.getD b 0 < 256 := by
        rw [List.getD_eq_getElem?_getD, List.getElem?_eq_getElem hlt]
        exact P.2.2.2 _ (List.getElem_mem hlt)
      rw [tp_cN hlt hT]
      refine rt_n rfl ?_
      refine rt_ic rfl (fun w => ?_) (fun w => ?_)
      · have w1 : nI (T.getD b 0) = nI 32 := i_eq w
        rw [nI_eq (by omega) (by omega)] at w1
        unfold wd_w at k
        rw [if_neg (fun y => y.2 w1)] at k
        exact k
      · have w1 : ¬ nI (T.getD b 0) = nI 32 := i_ne w
        have w2 : ¬ T.getD b 0 = 32 := fun y => w1 (by rw [y])
        unfold wd_w at k
        rw [if_pos ⟨hlt, w2⟩] at k
        refine rt_n rfl ?_
        refine rt_n rfl ?_
        refine rt_gf rfl c1 rfl rfl ?_
        refine rt_n rfl ?_
        refine rt_n rfl ?_
        refine rt_pf rfl c1 ⟨rfl, (show 2 < 4 by decide), rfl⟩ ?_
        refine rt_n rfl ?_
        have e1 : nI b + Int32.ofInt 1 = nI (b + 1) := nI_add b 1
        rw [List.set_set, e1]
        exact ih (b + 1) (by omega) (by omega) k
end NW
/-- nextWord: the word from the first place behind the blanks on -/
theorem rd_next {X : Nat × (Nat → Int32)} {d rd t q f b : Nat} {T : List Nat} {h : List va_E} {a : Value} (R : h[rd]? = some (rd_c t f b a)) (P : tp_ h t q T) (hb : b ≤ T.length) : rt_ X (d + 1) 21 0 [some (.ref rd)] [] h (fun v h' => v = none ∧ h' = h.set rd (rd_c t (wd_b T 401 b) (wd_w T 401 (wd_b T 401 b)) a)) := by
  have hrd : rd < h.length := (List.getElem?_eq_some_iff.mp R).1
  have hno := tp_no P R (by decide)
  have h1 : rd ≠ t := fun z => hno (Or.inl z)
  have h2 : rd ≠ q := fun z => hno (Or.inr z)
  have hT := P.2.2.1
  refine rt_n rfl ?_
  refine rt_n rfl ?_
  refine rt_gf rfl R rfl rfl ?_
  refine rt_pf rfl R ⟨rfl, (show 1 < 4 by decide), rfl⟩ ?_
  refine nw_1 hrd h1 h2 P 401 b hb (by omega) ?_
  have c2 : (h.set rd (rd_c t (wd_b T 401 b) b a))[rd]? = some (rd_c t (wd_b T 401 b) b a) := List.getElem?_set_self hrd
  refine rt_n rfl ?_
  refine rt_n rfl ?_
  refine rt_gf rfl c2 rfl rfl ?_
  refine rt_pf rfl c2 ⟨rfl, (show 2 < 4 by decide), rfl⟩ ?_
  rw [List.set_set]
  refine nw_2 hrd h1 h2 P 401 (wd_b T 401 b) (wd_b_le T 401 b hb) (by omega) ?_
  exact rt_r (v := none) rfl rfl ⟨rfl, rfl⟩
