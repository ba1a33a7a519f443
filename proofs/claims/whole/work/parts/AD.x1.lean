/-! MATHEMATICS, 1: what the solver keeps. -/
section MA1
variable {n G : Nat} {mem riv ned : Nat → Nat → Prop} {rg op : Nat → Prop}
theorem wnm_le (c : Nat → Prop) : ∀ i q, wnm G mem riv ned c i q → c q
  | 0, _, h => h
  | i + 1, q, h => wnm_le c i q h.1
theorem wnm_kp {s c : Nat → Prop} (hs : ∀ q, s q → c q) (hm : ∀ p, s p → cMt G mem riv ned p s) : ∀ i q, s q → wnm G mem riv ned c i q
  | 0, q, h => hs q h
  | i + 1, q, h => ⟨wnm_kp hs hm i q h, fun ⟨e, y⟩ => y (fun g hg hd => by
      subst e
      obtain ⟨x, a, b, x1, x2⟩ := hm _ h g hg hd
      exact ⟨x, a, b, wnm_kp hs hm _ x x1, x2⟩)⟩
theorem rGr_mo {s c : Nat → Prop} (hs : ∀ q, s q → c q) : ∀ k g, rGr n G mem ned rg s k g → rGr n G mem ned rg c k g
  | 0, _, h => h
  | k + 1, g, h => by
    rcases h with h | ⟨p, a, ⟨b, g', a1, a2, a3⟩, x⟩
    · exact Or.inl (rGr_mo hs k g h)
    · exact Or.inr ⟨p, a, ⟨hs p b, g', a1, rGr_mo hs k g' a2, a3⟩, x⟩
theorem rAl_mo {s c : Nat → Prop} (hs : ∀ q, s q → c q) (k q : Nat) (h : rAl n G mem ned rg s k q) : rAl n G mem ned rg c k q := by
  obtain ⟨a, g, b, x, y⟩ := h
  exact ⟨hs q a, g, b, rGr_mo hs k g x, y⟩
theorem rGr_s {c : Nat → Prop} {k j : Nat} (h : k ≤ j) (g : Nat) (x : rGr n G mem ned rg c k g) : rGr n G mem ned rg c j g := by
  induction h with
  | refl => exact x
  | step _ ih => exact Or.inl ih
theorem rAl_s {c : Nat → Prop} {k j : Nat} (h : k ≤ j) (q : Nat) (x : rAl n G mem ned rg c k q) : rAl n G mem ned rg c j q := by
  obtain ⟨a, g, b, x, y⟩ := x
  exact ⟨a, g, b, rGr_s h g x, y⟩
/-- nothing new: nothing new any more -/
theorem rGr_st {c : Nat → Prop} {k : Nat} (hn : n ≤ 32) (h : ∀ q, q < 32 → (rAl n G mem ned rg c k q ↔ bAl n G mem ned rg c k q)) : ∀ j g, rGr n G mem ned rg c (k + j) g → rGr n G mem ned rg c k g
  | 0, _, x => x
  | j + 1, g, x => by
    rcases x with x | ⟨p, a, x, y⟩
    · exact rGr_st hn h j g x
    · have x' : rAl n G mem ned rg c k p := by
        obtain ⟨x1, g', x2, x3, x4⟩ := x
        exact ⟨x1, g', x2, rGr_st hn h j g' x3, x4⟩
      have x2 := (h p (by omega)).mp x'
      cases k with
      | zero => exact absurd x2 id
      | succ k => exact Or.inr ⟨p, a, x2, y⟩
theorem rcF_sp (c : Nat → Prop) (hn : n ≤ 32) : ∀ f k, f + k = G + 1 → (0 < k → k ≤ crd (rGr n G mem ned rg c (k - 1)) G) → ∃ j, rcF n G mem ned rg c f k = rAl n G mem ned rg c j ∧ ∀ q, q < 32 → (rAl n G mem ned rg c j q ↔ bAl n G mem ned rg c j q)
  | 0, k, e, H => by
    have h1 := H (by omega)
    have h2 := crd_le (rGr n G mem ned rg c (k - 1)) G
    omega
  | f + 1, k, e, H => by
    by_cases q : ∀ q, q < 32 → (rAl n G mem ned rg c k q ↔ bAl n G mem ned rg c k q)
    · exact ⟨k, by rw [rcF, if_pos q], q⟩
    · rw [rcF, if_neg q]
      refine rcF_sp c hn f (k + 1) (by omega) (fun _ => ?_)
      rw [Nat.add_sub_cancel]
      cases k with
      | zero =>
        have : ∃ q, rAl n G mem ned rg c 0 q := by
          apply Classical.byContradiction
          intro y
          exact q (fun z _ => ⟨fun a => absurd ⟨z, a⟩ y, fun a => absurd a id⟩)
        obtain ⟨z, _, g, a, b, _⟩ := this
        exact crd_p a b
      | succ k =>
        have h1 := H (by omega)
        rw [Nat.add_sub_cancel] at h1
        have : ∃ g, g < G ∧ rGr n G mem ned rg c (k + 1) g ∧ ¬ rGr n G mem ned rg c k g := by
          apply Classical.byContradiction
          intro y
          refine q (fun z _ => ⟨fun ⟨a, g, b, x, m⟩ => ⟨a, g, b, ?_, m⟩, fun a => rAl_s (Nat.le_succ k) z a⟩)
          apply Classical.byContradiction
          exact fun w => y ⟨g, b, x, w⟩
        obtain ⟨g, a, b, x⟩ := this
        have := crd_lt (p := rGr n G mem ned rg c k) (q := rGr n G mem ned rg c (k + 1)) (i := g) G (fun j _ y => Or.inl y) a b x
        omega
theorem rch_i (c : Nat → Prop) (hn : n ≤ 32) (q : Nat) : rch n G mem ned rg c q ↔ ∃ k, rAl n G mem ned rg c k q := by
  obtain ⟨j, e, y⟩ := rcF_sp (n := n) (G := G) (mem := mem) (ned := ned) (rg := rg) c hn (G + 1) 0 rfl (fun h => absurd h (Nat.lt_irrefl _))
  unfold rch
  rw [e]
  refine ⟨fun x => ⟨j, x⟩, fun ⟨k, a, g, b, x, m⟩ => ⟨a, g, b, ?_, m⟩⟩
  by_cases h : k ≤ j
  · exact rGr_s h g x
  · have : k = j + (k - j) := by omega
    rw [this] at x
    exact rGr_st hn y _ g x
/-- a set that holds by itself -/
def cls (n G : Nat) (mem riv ned : Nat → Nat → Prop) (rg s : Nat → Prop) : Prop := (∀ p, s p → cMt G mem riv ned p s) ∧ ∀ q, s q → ∃ k, rAl n G mem ned rg s k q
theorem fst_kp {s l : Nat → Prop} (hn : n ≤ 32) (C : cls n G mem riv ned rg s) (hs : ∀ q, s q → l q) (q : Nat) (h : s q) : rch n G mem ned rg (wnm G mem riv ned l n) q := by
  rw [rch_i _ hn]
  obtain ⟨k, x⟩ := C.2 q h
  exact ⟨k, rAl_mo (wnm_kp hs C.1 n) k q x⟩
theorem fst_le {l : Nat → Prop} (hn : n ≤ 32) (q : Nat) (h : rch n G mem ned rg (wnm G mem riv ned l n) q) : l q := by
  rw [rch_i _ hn] at h
  obtain ⟨k, x, _⟩ := h
  exact wnm_le _ _ _ x
theorem stF_kp {s : Nat → Prop} (hn : n ≤ 32) (C : cls n G mem riv ned rg s) : ∀ f l, (∀ q, s q → l q) → ∀ q, s q → stF n G mem riv ned rg f l q
  | 0, l, hs, q, h => hs q h
  | f + 1, l, hs, q, h => by
    rw [stF]
    split
    · exact hs q h
    · exact stF_kp hn C f _ (fun q h => fst_kp hn C hs q h) q h
theorem stF_le (hn : n ≤ 32) : ∀ f l q, stF n G mem riv ned rg f l q → l q
  | 0, l, q, h => h
  | f + 1, l, q, h => by
    rw [stF] at h
    split at h
    · exact h
    · exact fst_le hn q (stF_le hn f _ q h)
theorem stF_fx (hn : n ≤ 32) : ∀ f l, crd l 32 < f → ∀ q, q < 32 → (rch n G mem ned rg (wnm G mem riv ned (stF n G mem riv ned rg f l) n) q ↔ stF n G mem riv ned rg f l q)
  | 0, l, h => absurd h (Nat.not_lt_zero _)
  | f + 1, l, h => by
    rw [stF]
    split
    case isTrue y => exact y
    case isFalse y =>
      refine stF_fx hn f _ ?_
      have : ∃ q, q < 32 ∧ l q ∧ ¬ rch n G mem ned rg (wnm G mem riv ned l n) q := by
        apply Classical.byContradiction
        intro w
        refine y (fun q hq => ⟨fst_le hn q, fun a => ?_⟩)
        apply Classical.byContradiction
        exact fun b => w ⟨q, hq, a, b⟩
      obtain ⟨q, a, b, x⟩ := this
      have := crd_lt (p := rch n G mem ned rg (wnm G mem riv ned l n)) (q := l) (i := q) 32 (fun j _ z => fst_le hn j z) a b x
      omega
theorem fx_cls {s : Nat → Prop} (hn : n ≤ 32) (hs : ∀ q, s q → q < n) (h : ∀ q, q < 32 → (rch n G mem ned rg (wnm G mem riv ned s n) q ↔ s q)) : cls n G mem riv ned rg s := by
  have hw : ∀ q, s q → wnm G mem riv ned s n q := fun q hq => by
    have := (h q (by have := hs q hq; omega)).mpr hq
    rw [rch_i _ hn] at this
    obtain ⟨k, x, _⟩ := this
    exact x
  have hd : ∀ i j q, i ≤ j → wnm G mem riv ned s j q → wnm G mem riv ned s i q := fun i j q hij x => by
    induction hij with
    | refl => exact x
    | step _ ih => exact ih x.1
  refine ⟨fun p hp => ?_, fun q hq => ?_⟩
  · have h1 := hd (p + 1) n p (hs p hp) (hw p hp)
    have h2 : cMt G mem riv ned p (wnm G mem riv ned s p) := by
      apply Classical.byContradiction
      exact fun w => h1.2 ⟨rfl, w⟩
    intro g hg hn
    obtain ⟨q, a, b, x, y⟩ := h2 g hg hn
    exact ⟨q, a, b, wnm_le _ _ _ x, y⟩
  · have := (h q (by have := hs q hq; omega)).mpr hq
    rw [rch_i _ hn] at this
    obtain ⟨k, x⟩ := this
    exact ⟨k, rAl_mo (wnm_le _ _) k q x⟩
theorem stl_cls {l : Nat → Prop} (hn : n ≤ 32) (hl : ∀ q, l q → q < n) : cls n G mem riv ned rg (stl n G mem riv ned rg l) :=
  fx_cls hn (fun q h => hl q (stF_le hn _ _ q h)) (stF_fx hn 33 l (by have := crd_le l 32; omega))
/-- a valid set of places -/
def vlp (n G : Nat) (mem riv ned : Nat → Nat → Prop) (rg op s : Nat → Prop) : Prop := (∀ q, s q → op q ∧ q < n) ∧ (∀ p q, s p → s q → ¬ riv p q) ∧ cls n G mem riv ned rg s ∧ mRt G mem rg s
theorem isV_i {s : Nat → Prop} {li : Prop} (hn : n ≤ 32) (hs : ∀ q, s q → q < n) : isV n G mem riv ned rg op li s ↔ li ∧ vlp n G mem riv ned rg op s := by
  constructor
  · rintro ⟨a, b, c, e, f⟩
    refine ⟨a, fun q hq => ⟨b q (by have := hs q hq; omega) hq, hs q hq⟩, fun p q hp hq y => c p (hs p hp) hp q (by have := hs q hq; omega) ⟨y, hq⟩, ?_, f⟩
    refine fx_cls hn hs ?_
    intro q hq
    refine ⟨fst_le hn q, fun x => ?_⟩
    apply Classical.byContradiction
    intro w
    have h1 := (e q hq).mpr x
    unfold stl at h1
    rw [stF, if_neg (fun y => w ((y q hq).mpr x))] at h1
    exact w (stF_le hn _ _ q h1)
  · rintro ⟨a, b, c, e, f⟩
    exact ⟨a, fun q hq x => (b q x).1, fun p hp x q hq y => c p q x y.2 y.1, fun q hq => ⟨stF_le hn _ _ q, stF_kp hn e _ _ (fun _ => id) q⟩, f⟩
end MA1
