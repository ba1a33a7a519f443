/-! MATHEMATICS, 2: the choice is the first valid set. -/
section MA2
variable {n G : Nat} {mem riv ned : Nat → Nat → Prop} {rg op : Nat → Prop}
theorem chL_n {f : Nat → Option (Nat → Prop)} {sel : Nat → Prop} : ∀ k p, chL f sel k p = none → ∀ j, p ≤ j → j < p + k → sel j → f j = none
  | 0, p, _, j, h1, h2, _ => by omega
  | k + 1, p, e, j, h1, h2, hs => by
    rw [chL] at e
    by_cases q : sel p
    · rw [if_pos q] at e
      cases hf : f p with
      | none =>
        rw [hf] at e
        by_cases y : j = p
        · subst y; exact hf
        · exact chL_n k (p + 1) e j (by omega) (by omega) hs
      | some r => rw [hf] at e; cases e
    · rw [if_neg q] at e
      by_cases y : j = p
      · subst y; exact absurd hs q
      · exact chL_n k (p + 1) e j (by omega) (by omega) hs
theorem chL_s {f : Nat → Option (Nat → Prop)} {sel : Nat → Prop} {r : Nat → Prop} : ∀ k p, chL f sel k p = some r → ∃ j, p ≤ j ∧ j < p + k ∧ sel j ∧ f j = some r ∧ ∀ i, p ≤ i → i < j → sel i → f i = none
  | 0, p, e => by cases e
  | k + 1, p, e => by
    rw [chL] at e
    by_cases q : sel p
    · rw [if_pos q] at e
      cases hf : f p with
      | none =>
        rw [hf] at e
        obtain ⟨j, a, b, c, x, y⟩ := chL_s k (p + 1) e
        refine ⟨j, by omega, by omega, c, x, fun i h1 h2 h3 => ?_⟩
        by_cases z : i = p
        · subst z; exact hf
        · exact y i (by omega) h2 h3
      | some r' =>
        rw [hf] at e
        cases e
        exact ⟨p, Nat.le_refl _, by omega, q, hf, fun i h1 h2 => by omega⟩
    · rw [if_neg q] at e
      obtain ⟨j, a, b, c, x, y⟩ := chL_s k (p + 1) e
      refine ⟨j, by omega, by omega, c, x, fun i h1 h2 h3 => ?_⟩
      by_cases z : i = p
      · subst z; exact absurd h3 q
      · exact y i (by omega) h2 h3
/-- a set agrees with what is taken, and lies in what is left -/
def agr (G : Nat) (mem : Nat → Nat → Prop) (k : Nat) (t c s : Nat → Prop) : Prop := (∀ q, t q → s q) ∧ (∀ q, s q → c q) ∧ ∀ q g, s q → g < G - k → mem g q → t q
def lxp (G : Nat) (mem : Nat → Nat → Prop) (r s : Nat → Prop) : Prop := ∃ g, g < G ∧ (∀ g', g' < g → ∀ q, mem g' q → (r q ↔ s q)) ∧ (∃ p, mem g p ∧ s p ∧ ∀ q, mem g q → r q → q < p)
def gOk (n G : Nat) (mem riv : Nat → Nat → Prop) (op : Nat → Prop) : Prop := (n ≤ 32) ∧ (∀ g q, mem g q → q < n) ∧ (∀ g g' q, mem g q → mem g' q → g = g') ∧ (∀ q, q < n → ∃ g, g < G ∧ mem g q) ∧ (∀ p q, p < n → q < n → riv p q → riv q p) ∧ (∀ g p q, mem g p → mem g q → ¬ p = q → riv p q) ∧ (∀ p, op p → p < n → ¬ riv p p)
theorem gOk.n32 (K : gOk n G mem riv op) : n ≤ 32 := K.1
theorem gOk.mn (K : gOk n G mem riv op) : ∀ g q, mem g q → q < n := K.2.1
theorem gOk.mu (K : gOk n G mem riv op) : ∀ g g' q, mem g q → mem g' q → g = g' := K.2.2.1
theorem gOk.me (K : gOk n G mem riv op) : ∀ q, q < n → ∃ g, g < G ∧ mem g q := K.2.2.2.1
theorem gOk.rs (K : gOk n G mem riv op) : ∀ p q, p < n → q < n → riv p q → riv q p := K.2.2.2.2.1
theorem gOk.ro (K : gOk n G mem riv op) : ∀ g p q, mem g p → mem g q → ¬ p = q → riv p q := K.2.2.2.2.2.1
theorem gOk.rr (K : gOk n G mem riv op) : ∀ p, op p → p < n → ¬ riv p p := K.2.2.2.2.2.2
theorem cho_sp (K : gOk n G mem riv op) : ∀ k t c, k ≤ G → (∀ q, c q → op q ∧ q < n) → (∀ q g, c q → g < G - k → mem g q → t q) → (∀ p q, t p → c q → ¬ riv p q) → (∀ p, t p → p < n) →
    (cho n G mem riv ned rg k t c = none → ∀ s, vlp n G mem riv ned rg op s → agr G mem k t c s → False) ∧ (∀ r, cho n G mem riv ned rg k t c = some r → vlp n G mem riv ned rg op r ∧ agr G mem k t c r ∧ ∀ s, vlp n G mem riv ned rg op s → agr G mem k t c s → (∀ q, s q ↔ r q) ∨ lxp G mem r s)
  | 0, t, c, hk, h1, h2, h3, h4 => by
    have hl : ∀ q, stl n G mem riv ned rg c q → c q := fun q => stF_le K.n32 _ _ q
    rw [cho]
    by_cases hb : chB G mem rg t (stl n G mem riv ned rg c)
    · rw [if_pos hb]
      refine ⟨fun _ s V A => ?_, fun r e => by cases e⟩
      have hs : ∀ q, s q → stl n G mem riv ned rg c q := stF_kp K.n32 V.2.2.1 _ _ A.2.1
      rcases hb with ⟨q, _, a, b⟩ | hb
      · exact b (hs q (A.1 q a))
      · exact hb (fun g hg hr => by obtain ⟨q, a, b, x⟩ := V.2.2.2 g hg hr; exact ⟨q, a, b, hs q x⟩)
    · rw [if_neg hb]
      refine ⟨fun e => (by cases e), fun r e => ?_⟩
      cases e
      have tl : ∀ q, t q → stl n G mem riv ned rg c q := fun q hq => by
        apply Classical.byContradiction
        exact fun w => hb (Or.inl ⟨q, by have := h4 q hq; have := K.n32; omega, hq, w⟩)
      have lt : ∀ q, stl n G mem riv ned rg c q → t q := fun q hq => by
        obtain ⟨g, a, b⟩ := K.me q (h1 q (hl q hq)).2
        exact h2 q g (hl q hq) a b
      have hm : mRt G mem rg (stl n G mem riv ned rg c) := by
        apply Classical.byContradiction
        exact fun w => hb (Or.inr w)
      have et : stl n G mem riv ned rg c = t := funext fun q => propext ⟨lt q, tl q⟩
      have hc := stl_cls (G := G) (mem := mem) (riv := riv) (ned := ned) (rg := rg) K.n32 (fun q hq => (h1 q hq).2)
      rw [et] at hc hm
      refine ⟨⟨fun q hq => h1 q (hl q (tl q hq)), fun p q hp hq => h3 p q hp (hl q (tl q hq)), hc, hm⟩, ⟨fun _ => id, fun q hq => hl q (tl q hq), fun q g hq _ _ => hq⟩, fun s V A => Or.inl (fun q => ⟨fun hq => ?_, A.1 q⟩)⟩
      obtain ⟨g, a, b⟩ := K.me q (V.1 q hq).2
      exact A.2.2 q g hq a b
  | k + 1, t, c, hk, h1, h2, h3, h4 => by
    have hl : ∀ q, stl n G mem riv ned rg c q → c q := fun q => stF_le K.n32 _ _ q
    have hkp : ∀ s, vlp n G mem riv ned rg op s → agr G mem (k + 1) t c s → ∀ q, s q → stl n G mem riv ned rg c q := fun s V A => stF_kp K.n32 V.2.2.1 _ _ A.2.1
    rw [cho]
    by_cases hb : chB G mem rg t (stl n G mem riv ned rg c)
    · rw [if_pos hb]
      refine ⟨fun _ s V A => ?_, fun r e => by cases e⟩
      rcases hb with ⟨q, _, a, b⟩ | hb
      · exact b (hkp s V A q (A.1 q a))
      · exact hb (fun g hg hr => by obtain ⟨q, a, b, x⟩ := V.2.2.2 g hg hr; exact ⟨q, a, b, hkp s V A q x⟩)
    · rw [if_neg hb]
      generalize hL : stl n G mem riv ned rg c = l at *
      have tl : ∀ q, t q → l q := fun q hq => by
        apply Classical.byContradiction
        exact fun w => hb (Or.inl ⟨q, by have := h4 q hq; have := K.n32; omega, hq, w⟩)
      have hg : ∀ g, g < G - k → g < G - (k + 1) ∨ g = G - (k + 1) := fun g hg => by omega
      have hgl : G - (k + 1) < G := by omega
      -- without this group
      have N := cho_sp K k t (fun q => l q ∧ ¬ mem (G - (k + 1)) q) (by omega) (fun q hq => h1 q (hl q hq.1)) (fun q g hq hg' hm => by
        rcases hg g hg' with e | e
        · exact h2 q g (hl q hq.1) e hm
        · subst e; exact absurd hm hq.2) (fun p q hp hq => h3 p q hp (hl q hq.1)) h4
      -- with this member
      have P := fun p (hs : mem (G - (k + 1)) p ∧ l p) => cho_sp K k (fun q => t q ∨ q = p) (fun q => l q ∧ ¬ riv p q) (by omega) (fun q hq => h1 q (hl q hq.1)) (fun q g hq hg' hm => by
        rcases hg g hg' with e | e
        · exact Or.inl (h2 q g (hl q hq.1) e hm)
        · subst e
          apply Classical.byContradiction
          intro w
          exact hq.2 (K.ro _ p q hs.1 hm (fun e => w (Or.inr e.symm)))) (fun x q hx hq => by
        rcases hx with hx | hx
        · exact h3 x q hx (hl q hq.1)
        · subst hx; exact hq.2) (fun x hx => by
        rcases hx with hx | hx
        · exact h4 x hx
        · subst hx; exact K.mn _ _ hs.1)
      -- a valid set is one of the two kinds
      have aN : ∀ s, vlp n G mem riv ned rg op s → agr G mem (k + 1) t c s → (∀ q, mem (G - (k + 1)) q → ¬ s q) → agr G mem k t (fun q => l q ∧ ¬ mem (G - (k + 1)) q) s := fun s V A w => ⟨A.1, fun q hq => ⟨hkp s V A q hq, fun y => w q y hq⟩, fun q g hq hg' hm => by
        rcases hg g hg' with e | e
        · exact A.2.2 q g hq e hm
        · subst e; exact absurd hq (w q hm)⟩
      have aP : ∀ s p, vlp n G mem riv ned rg op s → agr G mem (k + 1) t c s → mem (G - (k + 1)) p → s p → agr G mem k (fun q => t q ∨ q = p) (fun q => l q ∧ ¬ riv p q) s := fun s p V A hm hp => ⟨fun q hq => by
        rcases hq with hq | hq
        · exact A.1 q hq
        · subst hq; exact hp, fun q hq => ⟨hkp s V A q hq, V.2.1 p q hp hq⟩, fun q g hq hg' hm' => by
        rcases hg g hg' with e | e
        · exact Or.inl (A.2.2 q g hq e hm')
        · subst e
          apply Classical.byContradiction
          exact fun w => V.2.1 p q hp hq (K.ro _ p q hm hm' (fun e => w (Or.inr e.symm)))⟩
      have same : ∀ r s, agr G mem (k + 1) t c r → agr G mem (k + 1) t c s → ∀ g', g' < G - (k + 1) → ∀ q, mem g' q → (r q ↔ s q) := fun r s A B g' hg' q hm => ⟨fun x => B.1 q (A.2.2 q g' x hg' hm), fun x => A.1 q (B.2.2 q g' x hg' hm)⟩
      cases e1 : cho n G mem riv ned rg k t (fun q => l q ∧ ¬ mem (G - (k + 1)) q) with
      | some r0 =>
        refine ⟨fun e => (by cases e), fun r e => ?_⟩
        cases e
        obtain ⟨V0, A0, U0⟩ := N.2 r0 e1
        have A1 : agr G mem (k + 1) t c r0 := ⟨A0.1, fun q hq => hl q (A0.2.1 q hq).1, fun q g hq hg' hm => A0.2.2 q g hq (by omega) hm⟩
        refine ⟨V0, A1, fun s V A => ?_⟩
        by_cases w : ∀ q, mem (G - (k + 1)) q → ¬ s q
        · exact U0 s V (aN s V A w)
        · obtain ⟨p, hp⟩ := Classical.not_forall.mp w
          have hp1 : mem (G - (k + 1)) p := Classical.byContradiction fun z => hp (fun y => absurd y z)
          have hp2 : s p := Classical.byContradiction fun z => hp (fun _ => z)
          exact Or.inr ⟨_, hgl, same r0 s A1 A, p, hp1, hp2, fun q hm hr => absurd hm (A0.2.1 q hr).2⟩
      | none =>
        have n0 : ∀ s, vlp n G mem riv ned rg op s → agr G mem (k + 1) t c s → ∃ p, mem (G - (k + 1)) p ∧ s p := fun s V A => by
          apply Classical.byContradiction
          intro w
          exact N.1 e1 s V (aN s V A (fun q hm hs => w ⟨q, hm, hs⟩))
        refine ⟨fun e s V A => ?_, fun r e => ?_⟩
        · obtain ⟨p, hm, hp⟩ := n0 s V A
          have hs : mem (G - (k + 1)) p ∧ l p := ⟨hm, hkp s V A p hp⟩
          exact (P p hs).1 (chL_n n 0 e p (Nat.zero_le _) (by have := K.mn _ _ hm; omega) hs) s V (aP s p V A hm hp)
        · obtain ⟨p, -, hp, hs, er, hb'⟩ := chL_s n 0 e
          obtain ⟨V0, A0, U0⟩ := (P p hs).2 r er
          have A1 : agr G mem (k + 1) t c r := ⟨fun q hq => A0.1 q (Or.inl hq), fun q hq => hl q (A0.2.1 q hq).1, fun q g hq hg' hm => by
            rcases A0.2.2 q g hq (by omega) hm with y | y
            · exact y
            · subst y
              have := K.mu _ _ _ hm hs.1
              omega⟩
          refine ⟨V0, A1, fun s V A => ?_⟩
          obtain ⟨p', hm', hp'⟩ := n0 s V A
          by_cases w : p' = p
          · subst w; exact U0 s V (aP s p' V A hm' hp')
          · have hs' : mem (G - (k + 1)) p' ∧ l p' := ⟨hm', hkp s V A p' hp'⟩
            have hlt : p < p' := by
              apply Classical.byContradiction
              intro y
              exact (P p' hs').1 (hb' p' (Nat.zero_le _) (by omega) hs') s V (aP s p' V A hm' hp')
            refine Or.inr ⟨_, hgl, same r s A1 A, p', hm', hp', fun q hm hr => ?_⟩
            rcases A0.2.2 q _ hr (by omega) hm with y | y
            · exact absurd (K.ro _ p q hs.1 hm (fun e => by
                subst e
                have := A.1 _ y
                exact V.2.1 _ _ this hp' (K.ro _ _ _ hs.1 hm' (fun z => w z.symm)))) (A0.2.1 q hr).2
            · rw [y]; exact hlt
end MA2
