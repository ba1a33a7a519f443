/-! MATHEMATICS, 5: valid places are valid releases. -/
section MA6
variable {I : List kL} {D : kD} {gn : Nat → Int64} {riv ned : Nat → Nat → Prop} {rg op : Nat → Prop} {li : Prop}
def inS (I : List kL) (s : Nat → Prop) (S : List kL) : Prop := ∀ r, r ∈ S ↔ ∃ q, s q ∧ I[q]? = some r
def unq (I : List kL) (s : Nat → Prop) : Prop := ∀ p q r t, s p → s q → I[p]? = some r → I[q]? = some t → lNm r = lNm t → p = q
theorem rG_le (I : List kL) : lG I ≤ I.length := nbn_le I I.length
theorem lX_i (O : ixO I) (N : GN I I.length gn) {p q : Nat} {r s : kL} (hr : I[p]? = some r) (hs : I[q]? = some s) : lX I gn p q ↔ ((∃ e ∈ lNe r, lNm s = e.1 ∧ ¬ rP (lVe s) e.2) ∨ (lNm s = lNm r ∧ ¬ q = p)) ∨ ∃ e ∈ lBr r, lNm s = e.1 ∧ rP (lVe s) e.2 := by
  have ok := O.2.2 r (List.mem_of_getElem? hr)
  constructor
  · rintro ⟨r', hr', h⟩
    rw [hr] at hr'
    cases hr'
    rcases h with (⟨e, he, g, F, m, x⟩ | ⟨g, F, m, x⟩) | ⟨e, he, g, F, x⟩
    · have h1 := (FG_w O N (ok.2.1 e he) hs F).mp m
      exact Or.inl (Or.inl ⟨e, he, h1, fun y => x ((irS_i O N (ok.2.1 e he) hs F).mpr ⟨h1, y⟩)⟩)
    · exact Or.inl (Or.inr ⟨(FG_w O N ok.1 hs F).mp m, x⟩)
    · exact Or.inr ⟨e, he, (irS_i O N (ok.2.2 e he) hs F).mp x⟩
  · obtain ⟨g, F, m⟩ := FG_ex O N hs
    rintro ((⟨e, he, h1, h2⟩ | ⟨h1, h2⟩) | ⟨e, he, h1, h2⟩)
    · rw [h1] at F
      exact ⟨r, hr, Or.inl (Or.inl ⟨e, he, g, F, m, fun y => h2 ((irS_i O N (ok.2.1 e he) hs F).mp y).2⟩)⟩
    · rw [h1] at F
      exact ⟨r, hr, Or.inl (Or.inr ⟨g, F, m, h2⟩)⟩
    · rw [h1] at F
      exact ⟨r, hr, Or.inr ⟨e, he, g, F, (irS_i O N (ok.2.2 e he) hs F).mpr ⟨h1, h2⟩⟩⟩
theorem riv_i (O : ixO I) (L : lSp I D gn riv ned rg op li) {p q : Nat} (hp : p < I.length) (hq : q < I.length) : riv p q ↔ lX I gn p q ∨ lX I gn q p := by
  rw [L.2.1 p hp q (by have := O.2.1; omega)]
  constructor
  · rintro ⟨x, _, ⟨e, y⟩ | ⟨y, e⟩⟩
    · subst e; exact Or.inl y
    · subst e; exact Or.inr y
  · rintro (y | y)
    · exact ⟨p, hp, Or.inl ⟨rfl, y⟩⟩
    · exact ⟨q, hq, Or.inr ⟨y, rfl⟩⟩
theorem gok (O : ixO I) (L : lSp I D gn riv ned rg op li) : gOk I.length (lG I) (lM I) riv (fun q => op q ∧ q < I.length) := by
  refine ⟨O.2.1, fun g q h => h.1, fun g g' q a b => by have := a.2; have := b.2; omega, fun q hq => ⟨_, (mem_at hq).2, (mem_at hq).1⟩, fun p q hp hq h => (riv_i O L hq hp).mpr ((riv_i O L hp hq).mp h).symm, fun g p q a b h => ?_, fun p hp hp' h => ((L.2.2.2.2.2 p (by have := O.2.1; omega)).mp hp.1).1.2 ⟨hp', h⟩⟩
  obtain ⟨r, hr⟩ := gt_ex a.1
  obtain ⟨s, hs⟩ := gt_ex b.1
  refine (riv_i O L a.1 b.1).mpr (Or.inl ((lX_i O L.1 hr hs).mpr (Or.inl (Or.inr ⟨?_, fun e => h e.symm⟩))))
  exact nmI_inj (ix_nm O hs) (ix_nm O hr) ((gp_nm L.1 b hs).symm.trans (gp_nm L.1 a hr))
theorem nd_i (O : ixO I) (L : lSp I D gn riv ned rg op li) {p g : Nat} {r : kL} (hr : I[p]? = some r) (hg : g < lG I) : ned p g ↔ neG (lG I) gn (lNe r) g := by
  rw [L.2.2.1 p (gt_lt hr) g (by have := O.2.1; have := rG_le I; omega)]
  exact ⟨fun ⟨_, r', a, b⟩ => by rw [hr] at a; cases a; exact b, fun b => ⟨gt_lt hr, r, hr, b⟩⟩
theorem rg_i (O : ixO I) (L : lSp I D gn riv ned rg op li) {g : Nat} (hg : g < lG I) : rg g ↔ neG (lG I) gn D g := L.2.2.2.1 g (by have := O.2.1; have := rG_le I; omega)
theorem op_i (O : ixO I) (L : lSp I D gn riv ned rg op li) {q : Nat} {r : kL} (hr : I[q]? = some r) : op q ↔ (¬ noG (lG I) gn (lNe r) ∧ ¬ riv q q) ∧ opR I (lG I) (lM I) gn D q := by
  have hq := gt_lt hr
  rw [L.2.2.2.2.2 q (by have := O.2.1; omega)]
  refine and_congr (and_congr ⟨fun h y => h.2 ⟨hq, r, hr, y⟩, fun h => ⟨hq, fun ⟨_, r', a, b⟩ => ?_⟩⟩ ⟨fun h y => h ⟨hq, y⟩, fun h y => h y.2⟩) Iff.rfl
  rw [hr] at a
  cases a
  exact h b
/-- what is reached, as releases -/
theorem rc_to (O : ixO I) (L : lSp I D gn riv ned rg op li) (hD : ∀ e ∈ D, smW e.1) {s : Nat → Prop} {S : List kL} (hS : inS I s S) : ∀ k q r, I[q]? = some r → rAl I.length (lG I) (lM I) ned rg s k q → rcn D S (k + 1) r := by
  have hN : ∀ k g, g < lG I → rGr I.length (lG I) (lM I) ned rg s k g → ∀ q r, I[q]? = some r → lM I g q → (∃ e ∈ D, e.1 = lNm r) ∨ ∃ p t, p < I.length ∧ I[p]? = some t ∧ (∃ j, j < k ∧ rAl I.length (lG I) (lM I) ned rg s j p) ∧ ∃ e ∈ lNe t, e.1 = lNm r := by
    intro k
    induction k with
    | zero =>
      intro g hg h q r hr hm
      obtain ⟨e, he, F⟩ := (rg_i O L hg).mp h
      exact Or.inl ⟨e, he, ((FG_w O L.1 (hD e he) hr F).mp hm).symm⟩
    | succ k ih =>
      intro g hg h q r hr hm
      rcases h with h | ⟨p, hp, ha, hn⟩
      · rcases ih g hg h q r hr hm with y | ⟨p, t, a, b, ⟨j, c, c'⟩, x⟩
        · exact Or.inl y
        · exact Or.inr ⟨p, t, a, b, ⟨j, by omega, c'⟩, x⟩
      · obtain ⟨t, ht⟩ := gt_ex hp
        obtain ⟨e, he, F⟩ := (nd_i O L ht hg).mp hn
        exact Or.inr ⟨p, t, hp, ht, ⟨k, by omega, ha⟩, e, he, ((FG_w O L.1 ((O.2.2 t (List.mem_of_getElem? ht)).2.1 e he) hr F).mp hm).symm⟩
  have mono : ∀ i j r, i ≤ j → rcn D S i r → rcn D S j r := fun i j r h x => by
    induction h with
    | refl => exact x
    | step _ ih => exact Or.inl ih
  intro k
  induction k using Nat.strongRecOn with
  | _ k ih =>
    intro q r hr h
    obtain ⟨hs, g, hg, hgr, hm⟩ := h
    refine Or.inr ⟨(hS r).mpr ⟨q, hs, hr⟩, ?_⟩
    rcases hN k g hg hgr q r hr hm with y | ⟨p, t, hp, ht, ⟨j, hj, ha⟩, e, he, y⟩
    · exact Or.inl y
    · exact Or.inr ⟨t, (hS t).mpr ⟨p, ha.1, ht⟩, mono (j + 1) k t (by omega) (ih j hj p t ht ha), e, he, y⟩
theorem rc_of (O : ixO I) (L : lSp I D gn riv ned rg op li) (hD : ∀ e ∈ D, smW e.1) {s : Nat → Prop} {S : List kL} (hS : inS I s S) (hU : unq I s) : ∀ k r, rcn D S k r → ∀ q, s q → I[q]? = some r → ∃ j, rAl I.length (lG I) (lM I) ned rg s j q
  | 0, r, h, q, hs, hr => absurd h id
  | k + 1, r, h, q, hs, hr => by
    rcases h with h | ⟨_, h⟩
    · exact rc_of O L hD hS hU k r h q hs hr
    · obtain ⟨g, F, m⟩ := FG_ex O L.1 hr
      rcases h with ⟨e, he, y⟩ | ⟨t, ht, hk, e, he, y⟩
      · exact ⟨0, hs, g, F.1, (rg_i O L F.1).mpr ⟨e, he, by rw [y]; exact F⟩, m⟩
      · obtain ⟨p, hp, hpt⟩ := (hS t).mp ht
        obtain ⟨j, hj⟩ := rc_of O L hD hS hU k t hk p hp hpt
        exact ⟨j + 1, hs, g, F.1, Or.inr ⟨p, gt_lt hpt, hj, (nd_i O L hpt F.1).mpr ⟨e, he, by rw [y]; exact F⟩⟩, m⟩
theorem vlp_i (O : ixO I) (L : lSp I D gn riv ned rg op li) (hD : ∀ e ∈ D, smW e.1) {s : Nat → Prop} {S : List kL} (hS : inS I s S) (hs : ∀ q, s q → q < I.length) : (li ∧ vlp I.length (lG I) (lM I) riv ned rg (fun q => op q ∧ q < I.length) s) ↔ unq I s ∧ vl D S := by
  have n32 := O.2.1
  constructor
  · rintro ⟨hli, V1, V2, ⟨V3, V4⟩, V5⟩
    have hU : unq I s := fun p q r t hp hq hr ht e => by
      apply Classical.byContradiction
      intro w
      exact V2 p q hp hq ((riv_i O L (gt_lt hr) (gt_lt ht)).mpr (Or.inl ((lX_i O L.1 hr ht).mpr (Or.inl (Or.inr ⟨e.symm, fun z => w z.symm⟩)))))
    refine ⟨hU, fun e he => ?_, fun r hr => ⟨fun e he => ?_, fun e he => ?_⟩, fun r hr => ?_⟩
    · have h1 := L.2.2.2.2.1.mp hli
      have : ∃ g, g < lG I ∧ gn g = nmI e.1 := by
        apply Classical.byContradiction
        intro w
        exact h1 ⟨e, he, fun g hg y => w ⟨g, hg, y⟩⟩
      obtain ⟨g, hg⟩ := this
      have F := (FG_i O L.1).mpr hg
      obtain ⟨q, _, hm, hq⟩ := V5 g hg.1 ((rg_i O L hg.1).mpr ⟨e, he, F⟩)
      obtain ⟨r, hr⟩ := gt_ex (hs q hq)
      rcases ((op_i O L hr).mp (V1 q hq).1.1).2 e he g F with y | y
      · exact absurd hm y
      · exact ⟨r, (hS r).mpr ⟨q, hq, hr⟩, (irS_i O L.1 (hD e he) hr F).mp y⟩
    · obtain ⟨p, hp, hpr⟩ := (hS r).mp hr
      have ok := (O.2.2 r (List.mem_of_getElem? hpr)).2.1 e he
      have h1 := ((op_i O L hpr).mp (V1 p hp).1.1).1.1
      have : ∃ g, g < lG I ∧ gn g = nmI e.1 := by
        apply Classical.byContradiction
        intro w
        exact h1 ⟨e, he, fun g hg y => w ⟨g, hg, y⟩⟩
      obtain ⟨g, hg⟩ := this
      have F := (FG_i O L.1).mpr hg
      obtain ⟨q, _, hm, hq, hn⟩ := V3 p hp g hg.1 ((nd_i O L hpr hg.1).mpr ⟨e, he, F⟩)
      obtain ⟨t, ht⟩ := gt_ex (hs q hq)
      have h2 := (FG_w O L.1 ok ht F).mp hm
      refine ⟨t, (hS t).mpr ⟨q, hq, ht⟩, h2, ?_⟩
      apply Classical.byContradiction
      intro w
      exact hn ((riv_i O L (gt_lt hpr) (gt_lt ht)).mpr (Or.inl ((lX_i O L.1 hpr ht).mpr (Or.inl (Or.inl ⟨e, he, h2, w⟩)))))
    · obtain ⟨p, hp, hpr⟩ := (hS r).mp hr
      rintro ⟨t, ht, h1, h2⟩
      obtain ⟨q, hq, hqt⟩ := (hS t).mp ht
      exact V2 p q hp hq ((riv_i O L (gt_lt hpr) (gt_lt hqt)).mpr (Or.inl ((lX_i O L.1 hpr hqt).mpr (Or.inr ⟨e, he, h1, h2⟩))))
    · obtain ⟨p, hp, hpr⟩ := (hS r).mp hr
      obtain ⟨k, hk⟩ := V4 p hp
      exact ⟨k + 1, rc_to O L hD hS k p r hpr hk⟩
  · rintro ⟨hU, W1, W2, W3⟩
    have sm : ∀ e : kW × kR, mtD S e → ∀ q t, s q → I[q]? = some t → lNm t = e.1 → rP (lVe t) e.2 := fun e ⟨u, hu, h1, h2⟩ q t hq ht y => by
      obtain ⟨p, hp, hpu⟩ := (hS u).mp hu
      have := hU p q u t hp hq hpu ht (h1.trans y.symm)
      subst this
      rw [hpu] at ht
      cases ht
      exact h2
    have nX : ∀ p q, s p → s q → ¬ lX I gn p q := fun p q hp hq h => by
      obtain ⟨r, hr⟩ := gt_ex (hs p hp)
      obtain ⟨t, ht⟩ := gt_ex (hs q hq)
      have hrS := (hS r).mpr ⟨p, hp, hr⟩
      rcases (lX_i O L.1 hr ht).mp h with (⟨e, he, h1, h2⟩ | ⟨h1, h2⟩) | ⟨e, he, h1, h2⟩
      · exact h2 (sm e ((W2 r hrS).1 e he) q t hq ht h1)
      · exact h2 (hU q p t r hq hp ht hr h1)
      · exact (W2 r hrS).2 e he ⟨t, (hS t).mpr ⟨q, hq, ht⟩, h1, h2⟩
    have nR : ∀ p q, s p → s q → ¬ riv p q := fun p q hp hq h => by
      rcases (riv_i O L (hs p hp) (hs q hq)).mp h with y | y
      · exact nX p q hp hq y
      · exact nX q p hq hp y
    have nN : ∀ (T : kD), (∀ e ∈ T, smW e.1) → (∀ e ∈ T, mtD S e) → ¬ noG (lG I) gn T := fun T h1 h2 h3 => by
      obtain ⟨e, he, y⟩ := (no_i O L.1 h1).mp h3
      obtain ⟨u, hu, z, _⟩ := h2 e he
      obtain ⟨p, _, hpu⟩ := (hS u).mp hu
      exact y u (List.mem_of_getElem? hpu) z
    refine ⟨L.2.2.2.2.1.mpr (nN D hD W1), fun q hq => ⟨?_, hs q hq⟩, nR, ⟨fun p hp g hg hn => ?_, fun q hq => ?_⟩, fun g hg hr => ?_⟩
    · obtain ⟨t, ht⟩ := gt_ex (hs q hq)
      have htS := (hS t).mpr ⟨q, hq, ht⟩
      refine ⟨(op_i O L ht).mpr ⟨⟨nN _ (O.2.2 t (List.mem_of_getElem? ht)).2.1 (W2 t htS).1, nR q q hq hq⟩, fun e he g F => ?_⟩, hs q hq⟩
      by_cases hm : lM I g q
      · have h1 := (FG_w O L.1 (hD e he) ht F).mp hm
        exact Or.inr ((irS_i O L.1 (hD e he) ht F).mpr ⟨h1, sm e (W1 e he) q t hq ht h1⟩)
      · exact Or.inl hm
    · obtain ⟨r, hr⟩ := gt_ex (hs p hp)
      obtain ⟨e, he, F⟩ := (nd_i O L hr hg).mp hn
      obtain ⟨u, hu, h1, h2⟩ := (W2 r ((hS r).mpr ⟨p, hp, hr⟩)).1 e he
      obtain ⟨q, hq, hqu⟩ := (hS u).mp hu
      exact ⟨q, by have := gt_lt hqu; omega, (FG_w O L.1 ((O.2.2 r (List.mem_of_getElem? hr)).2.1 e he) hqu F).mpr h1, hq, nR p q hp hq⟩
    · obtain ⟨t, ht⟩ := gt_ex (hs q hq)
      obtain ⟨k, hk⟩ := W3 t ((hS t).mpr ⟨q, hq, ht⟩)
      exact rc_of O L hD hS hU k t hk q hq ht
    · obtain ⟨e, he, F⟩ := (rg_i O L hg).mp hr
      obtain ⟨u, hu, h1, h2⟩ := W1 e he
      obtain ⟨q, hq, hqu⟩ := (hS u).mp hu
      exact ⟨q, by have := gt_lt hqu; omega, (FG_w O L.1 (hD e he) hqu F).mpr h1, hq⟩
end MA6
