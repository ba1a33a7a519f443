/-! MATHEMATICS, 10: best, install, roots, owner. -/
section MB2
variable {I J : List kL} {nx : Nat} {D : kD} {K : List kG}
theorem crd_ext {p : Nat → Prop} {n : Nat} (h : ∀ q, p q → q < n) : ∀ k, crd p (n + k) = crd p n
  | 0 => rfl
  | k + 1 => by
    rw [← Nat.add_assoc, crd_f (fun y => by have := h _ y; omega)]
    exact crd_ext h k
theorem crd_32 {p : Nat → Prop} {n : Nat} (h : ∀ q, p q → q < n) (hn : n ≤ 32) : crd p 32 = crd p n := by
  have := crd_ext h (32 - n)
  rw [show n + (32 - n) = 32 by omega] at this
  exact this
theorem fnd_8 (H : inv I J nx D K) {B : List kL} (f : fnd I D (some B)) : B.length ≤ 8 ∧ B.Pairwise (fun r s => nmI (lNm r) < nmI (lNm s)) ∧ ∀ r ∈ B, r ∈ I := by
  obtain ⟨N, n1, A, a1, a2, _⟩ := f
  obtain ⟨L, l1, l2⟩ := nm_len H.ix
  have e := nmS_uni n1 l1 (fun r => Iff.rfl)
  subst e
  have h8 := H.n8
  have := List.length_filterMap_le (id : Option kL → Option kL) A
  have := a1.1
  rw [a2]
  refine ⟨by omega, asg_fm n1.1 a1, fun r hr => ?_⟩
  obtain ⟨k, hk⟩ := fm_in.mp hr
  exact (a1.2 k r hk).1
theorem h8_of (H : inv I J nx D K) {gn : Nat → Int64} {riv ned : Nat → Nat → Prop} {rg op : Nat → Prop} {li so : Prop} {fo : Nat → Prop} (S : lSS I D gn riv ned rg op li so fo) (hso : so) : crd fo I.length ≤ 8 := by
  have f := ((fnd_of H.ix H.ds S).1 hso).1
  rw [← pkL_len I.length (Nat.le_refl _)]
  exact (fnd_8 H f).1
theorem s_best {k : Int32} {v v2 : Option Value} (H : inv I J nx D K) (a : bstP I D k v) (b : bsR J D k v2) : v2 = v := by
  obtain ⟨gn, riv, ned, rg, op, li, so, fo, S, a⟩ := a
  obtain ⟨F1, F2⟩ := fnd_of H.ix H.ds S
  by_cases hso : so
  · obtain ⟨f, hfo, _⟩ := F1 hso
    have f8 := fnd_8 H f
    rcases b with ⟨b, _⟩ | ⟨B, b, b2⟩
    · cases fnd_uni (fnd_cg H.mm f) b
    · cases fnd_uni (fnd_cg H.mm f) b
      have hl : (pkL I fo I.length).length = crd fo 32 := by rw [pkL_len I.length (Nat.le_refl _), crd_32 hfo H.ix.2.1]
      rcases a with ⟨a1 | a1, a2⟩ | ⟨a0, _, a⟩
      · rcases b2 with ⟨b1, _⟩ | ⟨_, ⟨j, r, e, hj, _⟩ | ⟨_, b3⟩⟩
        · rw [b1] at a1; exact absurd a1 (by decide)
        · exfalso
          have := gt_lt hj
          rw [e, Int32.lt_iff_toInt_lt, nI_toInt (by omega)] at a1
          have : (-1 : Int32).toInt = -1 := by decide
          omega
        · rw [a2, b3]
      · exact absurd hso a1
      · rcases a with ⟨a1, a2⟩ | ⟨a1, a2⟩
        · rcases b2 with ⟨_, b3⟩ | ⟨b1, _⟩
          · rw [a2, b3, hl]
          · exact absurd a1 b1
        · rcases b2 with ⟨b1, _⟩ | ⟨_, b2⟩
          · exact absurd b1 a1
          · rcases a2 with ⟨j, r, e, hj, e2⟩ | ⟨e, e2⟩
            · rcases b2 with ⟨j', r', e', hj', e2'⟩ | ⟨e', _⟩
              · have h1 := gt_lt hj
                have h2 := gt_lt hj'
                rw [e] at e'
                have := (nI_eqI (by omega) (by omega)).mp e'
                subst this
                rw [hj] at hj'
                cases hj'
                rw [e2, e2']
              · exact absurd e (e' j (gt_lt hj))
            · rcases b2 with ⟨j', r', e', hj', _⟩ | ⟨_, e2'⟩
              · exact absurd e' (e j' (gt_lt hj'))
              · rw [e2, e2']
  · have f := fnd_cg H.mm (F2 hso)
    rcases b with ⟨_, b2⟩ | ⟨B, b, _⟩
    · rcases a with ⟨_, a2⟩ | ⟨_, a1, _⟩
      · rw [a2, b2]
      · exact absurd a1 hso
    · cases fnd_uni f b
theorem clP_i {S : List kL} (hS : S.Pairwise (fun r s => nmI (lNm r) < nmI (lNm s))) (ok : ∀ r ∈ S, okL' r) : clP (arr S) ↔ clR S := by
  obtain ⟨nd, mm⟩ := arr_nd (nmP_nd hS)
  have nd' := nmP_nd hS
  constructor
  · rintro ⟨i, j, e, f, hij, hi, hj, u, hu, w, hw, h⟩
    have he : e.1 ∈ S := (mm e.1).mp (List.mem_map.mpr ⟨e, List.mem_of_getElem? hi, rfl⟩)
    have hf : f.1 ∈ S := (mm f.1).mp (List.mem_map.mpr ⟨f, List.mem_of_getElem? hj, rfl⟩)
    have hne : ¬ f.1 = e.1 := pw_lt nd hij (by rw [List.getElem?_map, hj]; rfl) (by rw [List.getElem?_map, hi]; rfl)
    have ew : w = u := pt_inj ((ok e.1 he).2 u hu) ((ok f.1 hf).2 w hw) h
    subst ew
    obtain ⟨p, hp⟩ := gt_mem he
    obtain ⟨q, hq⟩ := gt_mem hf
    rcases Nat.lt_trichotomy p q with y | y | y
    · exact ⟨q, p, f.1, e.1, y, hq, hp, w, hw, hu⟩
    · subst y; rw [hp] at hq; exact absurd (Option.some.inj hq).symm hne
    · exact ⟨p, q, e.1, f.1, y, hp, hq, w, hu, hw⟩
  · rintro ⟨i, j, r, s, hij, hi, hj, u, hu, hw⟩
    obtain ⟨e, he, e1⟩ := List.mem_map.mp ((mm r).mpr (List.mem_of_getElem? hi))
    obtain ⟨f, hf, f1⟩ := List.mem_map.mp ((mm s).mpr (List.mem_of_getElem? hj))
    have hne : ¬ s = r := pw_lt nd' hij hj hi
    obtain ⟨p, hp⟩ := gt_mem he
    obtain ⟨q, hq⟩ := gt_mem hf
    rcases Nat.lt_trichotomy p q with y | y | y
    · exact ⟨q, p, f, e, y, hq, hp, u, by rw [f1]; exact hw, u, by rw [e1]; exact hu, fun _ _ => rfl⟩
    · subst y; rw [hp] at hq; cases hq; exact absurd (f1.symm.trans e1) hne
    · exact ⟨p, q, e, f, y, hp, hq, u, by rw [e1]; exact hu, u, by rw [f1]; exact hw, fun _ _ => rfl⟩
theorem kPut_in {K : List kG} {t g : kG} (h : g ∈ kPut K t) : g ∈ K ∨ g = t := by
  unfold kPut at h
  rcases List.mem_append.mp h with y | y
  · split at y
    · exact Or.inl (List.mem_of_mem_drop y)
    · exact Or.inl y
  · exact Or.inr (List.mem_singleton.mp y)
theorem sty_i (H : inv I J nx D K) {g : kG} (hg : g ∈ K) {gn : Nat → Int64} {riv ned : Nat → Nat → Prop} {rg op : Nat → Prop} {li : Prop} (L : lSp I D gn riv ned rg op li) (hw : Int32) : (hw = 0 ∧ allIn I g ∧ isV I.length (lG I) (lM I) riv ned rg op li (stP I g)) ↔ styR J D g hw := by
  obtain ⟨ρ, r1, r2⟩ := H.rh
  have n6 := H.nx6
  have ne : ∀ r ∈ I, ∀ e ∈ g, (nI (lNo r) = nI (lNo e.1) ↔ lNo r = lNo e.1) := fun r hr e he => nI_eqI (by have := H.no r hr; omega) (by have := ((H.gk g hg).e he).2; omega)
  have eq : ∀ r ∈ I, ∀ e ∈ g, lNo r = lNo e.1 → r = e.1 := fun r hr e he y => by rw [← r1 r hr, y, r2 g hg e he]
  have hs : ∀ q, stP I g q → q < I.length := fun q ⟨e, _, r, hr, _⟩ => gt_lt hr
  refine and_congr Iff.rfl ?_
  have hin : allIn I g ↔ ∀ e ∈ g, ∃ r ∈ J, lNo r = lNo e.1 := ⟨fun h e he => by
    obtain ⟨r, a, b⟩ := h e he
    exact ⟨r, (H.mm r).mp a, (ne r a e he).mp b⟩, fun h e he => by
    obtain ⟨r, a, b⟩ := h e he
    exact ⟨r, (H.mm r).mpr a, (ne r ((H.mm r).mpr a) e he).mpr b⟩⟩
  rw [← hin]
  refine and_congr_right (fun hall => ?_)
  have hS : inS I (stP I g) (g.map Prod.fst) := fun r => by
    constructor
    · intro h
      obtain ⟨e, he, rfl⟩ := List.mem_map.mp h
      obtain ⟨r, a, b⟩ := hall e he
      have := eq r a e he ((ne r a e he).mp b)
      subst this
      obtain ⟨q, hq⟩ := gt_mem a
      exact ⟨q, ⟨e, he, _, hq, rfl⟩, hq⟩
    · rintro ⟨q, ⟨e, he, r', hr', y⟩, hr⟩
      rw [hr] at hr'
      cases hr'
      have hi := List.mem_of_getElem? hr
      rw [eq r hi e he ((ne r hi e he).mp y)]
      exact List.mem_map.mpr ⟨e, he, rfl⟩
  rw [isV_i H.ix.2.1 hs]
  have h1 : vlp I.length (lG I) (lM I) riv ned rg op (stP I g) ↔ vlp I.length (lG I) (lM I) riv ned rg (fun q => op q ∧ q < I.length) (stP I g) := and_congr ⟨fun h q y => ⟨h q y, hs q y⟩, fun h q y => (h q y).1⟩ Iff.rfl
  rw [h1, vlp_i H.ix L H.ds hS hs]
  refine ⟨fun h => h.2, fun h => ⟨fun p q r t hp hq hr ht e => ?_, h⟩⟩
  obtain ⟨S, rfl, b, _⟩ := H.gk g hg
  obtain ⟨nd, mm⟩ := arr_nd (nmP_nd b)
  have hr' := (mm r).mp ((hS r).mpr ⟨p, hp, hr⟩)
  have ht' := (mm t).mp ((hS t).mpr ⟨q, hq, ht⟩)
  obtain ⟨i, hi⟩ := gt_mem hr'
  obtain ⟨j, hj⟩ := gt_mem ht'
  have : i = j := by
    apply Classical.byContradiction
    intro w
    rcases Nat.lt_or_gt_of_ne w with y | y
    · have := pw_lt b y hi hj; rw [e] at this; exact i64_irr _ this
    · have := pw_lt b y hj hi; rw [e] at this; exact i64_irr _ this
  subst this
  rw [hi] at hj
  cases hj
  exact H.uq hr ht rfl
theorem s_inst {g : kG} {hw cu : Int32} {made m1 m2 : Nat} {st s1 s2 : kS} {K1 K2 : List kG} {v v2 : Option Value} (H : inv I J nx D K) (hg : g ∈ K) (a : insP I D K made st g hw cu v K1 m1 s1) (b : inR J D K made st g hw cu v2 K2 m2 s2) : v2 = v ∧ K2 = K1 ∧ m2 = m1 ∧ s2 = s1 ∧ inv I J nx D K1 := by
  obtain ⟨gn, riv, ned, rg, op, li, so, fo, S, a⟩ := a
  have sty := sty_i H hg S.1 hw
  obtain ⟨F1, F2⟩ := fnd_of H.ix H.ds S
  obtain ⟨ρ, r1, r2⟩ := H.rh
  have ext : ∀ nxt, gOK nx nxt → (∀ e ∈ nxt, ρ (lNo e.1) = e.1) → inv I J nx D (kPut K nxt) := fun nxt k1 k2 => ⟨H.ix, H.pm, H.n8, H.a5, H.pt, H.no, H.ds, H.dn, ⟨ρ, r1, fun g' hg' => by
    rcases kPut_in hg' with y | y
    · exact r2 g' y
    · subst y; exact k2⟩, fun g' hg' => by
    rcases kPut_in hg' with y | y
    · exact H.gk g' y
    · subst y; exact k1, H.nx6⟩
  -- the same next set on both sides
  have main : ∀ nxt T, nxt = arr T → T.Pairwise (fun r s => nmI (lNm r) < nmI (lNm s)) → T.length ≤ 8 → (∀ r ∈ T, okL' r ∧ lNo r < nx ∧ ρ (lNo r) = r) → ((clP nxt ∧ v = some (.int (-7)) ∧ K1 = K ∧ m1 = made ∧ s1 = st) ∨ (¬ clP nxt ∧ ¬ cu < 0 ∧ v = some (.int (-5)) ∧ K1 = K ∧ m1 = made ∧ s1 = st) ∨ (¬ clP nxt ∧ cu < 0 ∧ v = some (.int (nI nxt.length)) ∧ K1 = kPut K nxt ∧ m1 = made + 1 ∧ s1 = wkS g nxt)) → ((clR T ∧ v2 = some (.int (-7)) ∧ K2 = K ∧ m2 = made ∧ s2 = st) ∨ (¬ clR T ∧ ¬ cu < 0 ∧ v2 = some (.int (-5)) ∧ K2 = K ∧ m2 = made ∧ s2 = st) ∨ (¬ clR T ∧ cu < 0 ∧ v2 = some (.int (nI T.length)) ∧ K2 = kPut K (arr T) ∧ m2 = made + 1 ∧ s2 = wkS g (arr T))) → v2 = v ∧ K2 = K1 ∧ m2 = m1 ∧ s2 = s1 ∧ inv I J nx D K1 := fun nxt T e hT h8 ok x y => by
    subst e
    rw [clP_i hT (fun r hr => (ok r hr).1)] at x
    have nd := arr_nd (nmP_nd hT)
    rcases x with ⟨x1, rfl, rfl, rfl, rfl⟩ | ⟨x1, x2, rfl, rfl, rfl, rfl⟩ | ⟨x1, x2, rfl, rfl, rfl, rfl⟩
    · rcases y with ⟨_, rfl, rfl, rfl, rfl⟩ | ⟨y1, _⟩ | ⟨y1, _⟩
      · exact ⟨rfl, rfl, rfl, rfl, H⟩
      · exact absurd x1 y1
      · exact absurd x1 y1
    · rcases y with ⟨y1, _⟩ | ⟨_, _, rfl, rfl, rfl, rfl⟩ | ⟨_, y1, _⟩
      · exact absurd y1 x1
      · exact ⟨rfl, rfl, rfl, rfl, H⟩
      · exact absurd y1 x2
    · rcases y with ⟨y1, _⟩ | ⟨_, y1, _⟩ | ⟨_, _, rfl, rfl, rfl, rfl⟩
      · exact absurd y1 x1
      · exact absurd x2 y1
      · refine ⟨by rw [arr_len], rfl, rfl, rfl, ext _ ⟨T, rfl, hT, h8, fun r hr => ⟨(ok r hr).1, (ok r hr).2.1⟩⟩ (fun e he => ?_)⟩
        exact (ok e.1 ((nd.2 e.1).mp (List.mem_map.mpr ⟨e, he, rfl⟩))).2.2
  rcases a with ⟨a1, a2, rfl, rfl, rfl, rfl⟩ | ⟨nxt, a1, a2⟩
  · rw [sty] at a1
    have f := fnd_cg H.mm (F2 a2)
    rcases b with ⟨_, _, rfl, rfl, rfl, rfl⟩ | ⟨T, ⟨b1, _⟩ | ⟨_, b1⟩, _⟩
    · exact ⟨rfl, rfl, rfl, rfl, H⟩
    · exact absurd b1 a1
    · cases fnd_uni f b1
  · rcases a1 with ⟨a3, a4, a5, rfl⟩ | ⟨a3, a4, rfl⟩
    · have a6 := sty.mp ⟨a3, a4, a5⟩
      rcases b with ⟨b1, _⟩ | ⟨T, ⟨_, b1, _, b2⟩ | ⟨b1, _⟩, b3⟩
      · exact absurd a6 b1
      · obtain ⟨S0, e0, e1, e2, e3⟩ := H.gk _ hg
        have m0 := (arr_nd (nmP_nd e1)).2
        have : T = S0 := srt_uni (fun a b x y => i64_as x y) b2 e1 (fun r => (b1 r).trans (by rw [e0]; exact m0 r))
        subst this
        refine main nxt T e0 e1 e2 (fun r hr => ⟨(e3 r hr).1, (e3 r hr).2, ?_⟩) a2 b3
        obtain ⟨e, he, ee⟩ := List.mem_map.mp ((b1 r).mp hr)
        rw [← ee]
        exact r2 _ hg e he
      · exact absurd a6 b1
    · have a6 : ¬ styR J D g hw := fun y => a3 (sty.mpr y)
      obtain ⟨f, _⟩ := F1 a4
      obtain ⟨f8, f9, f10⟩ := fnd_8 H f
      rcases b with ⟨_, b1, _⟩ | ⟨T, ⟨b1, _⟩ | ⟨_, b1⟩, b3⟩
      · cases fnd_uni (fnd_cg H.mm f) b1
      · exact absurd b1 a6
      · cases fnd_uni (fnd_cg H.mm f) b1
        exact main _ _ rfl f9 f8 (fun r hr => ⟨H.pt r (f10 r hr), H.no r (f10 r hr), r1 r (f10 r hr)⟩) a2 b3
theorem s_sub {K1 : List kG} (H : inv I J nx D K) (h : ∀ g ∈ K1, g ∈ K) : inv I J nx D K1 := by
  obtain ⟨ρ, r1, r2⟩ := H.rh
  exact ⟨H.ix, H.pm, H.n8, H.a5, H.pt, H.no, H.ds, H.dn, ⟨ρ, r1, fun g hg => r2 g (h g hg)⟩, fun g hg => H.gk g (h g hg), H.nx6⟩
theorem s_D {D' : kD} (H : inv I J nx D K) (h1 : ∀ e ∈ D', smW e.1) (h2 : D'.Pairwise (fun a b => ¬ a.1 = b.1)) : inv I J nx D' K := ⟨H.ix, H.pm, H.n8, H.a5, H.pt, H.no, h1, h2, H.rh, H.gk, H.nx6⟩
theorem dn_uq (H : inv I J nx D K) {p q : Nat} {e f : kW × kR} (hp : D[p]? = some e) (hq : D[q]? = some f) (y : e.1 = f.1) : p = q := by
  apply Classical.byContradiction
  intro w
  rcases Nat.lt_or_gt_of_ne w with z | z
  · exact pw_lt H.dn z hp hq y
  · exact pw_lt H.dn z hq hp y.symm
theorem s_unwant {ws : List kW} {v v2 : Option Value} {D1 D2 : kD} (H : inv I J nx D K) (a : uwP ws D v D1) (b : uwR ws D v2 D2) : v2 = v ∧ D2 = D1 ∧ inv I J nx D1 K := by
  rcases a with ⟨a1, rfl, rfl⟩ | ⟨w, e, hw, a⟩
  · rcases b with ⟨_, rfl, rfl⟩ | ⟨w, e, hw, _⟩
    · exact ⟨rfl, rfl, H⟩
    · exact absurd ⟨w, e, hw⟩ a1
  · rcases b with ⟨b1, _⟩ | ⟨w', e', hw', b⟩
    · exact absurd ⟨w, e, hw⟩ b1
    · rw [e] at e'
      cases e'
      have inj : ∀ x ∈ D, nmI x.1 = nmI w → x.1 = w := fun x hx y => nmI_inj (H.ds x hx) (nm_sm hw) y
      rcases a with ⟨a1, rfl, rfl⟩ | ⟨p, x, hp, h1, h2, rfl, rfl⟩
      · rcases b with ⟨_, rfl, rfl⟩ | ⟨p, x, hp, h1, _⟩
        · exact ⟨rfl, rfl, H⟩
        · exact absurd (by rw [h1]) (a1 x (List.mem_of_getElem? hp))
      · rcases b with ⟨b1, _⟩ | ⟨p', x', hp', h1', _, rfl, rfl⟩
        · exact absurd (inj x (List.mem_of_getElem? hp) h1) (b1 x (List.mem_of_getElem? hp))
        · have := dn_uq H hp hp' ((inj x (List.mem_of_getElem? hp) h1).trans h1'.symm)
          subst this
          have sub : (D.eraseIdx p).Sublist D := List.eraseIdx_sublist ..
          exact ⟨rfl, rfl, s_D H (fun e he => H.ds e (sub.subset he)) (H.dn.sublist sub)⟩
theorem s_want {ws : List kW} {v v2 : Option Value} {D1 D2 : kD} (H : inv I J nx D K) (a : wnP ws D v D1) (b : wnR ws D v2 D2) : v2 = v ∧ D2 = D1 ∧ inv I J nx D1 K := by
  rcases a with ⟨a1, rfl, rfl⟩ | ⟨w, us, R, e, hw, hR, a⟩
  · rcases b with ⟨_, rfl, rfl⟩ | ⟨w, us, R, e, hw, hR, _⟩
    · exact ⟨rfl, rfl, H⟩
    · exact absurd ⟨w, us, R, e, hw, hR⟩ a1
  · rcases b with ⟨b1, _⟩ | ⟨w', us', R', e', hw', hR', b⟩
    · exact absurd ⟨w, us, R, e, hw, hR⟩ b1
    · rw [e] at e'
      cases e'
      rw [hR] at hR'
      cases hR'
      have inj : ∀ x ∈ D, nmI x.1 = nmI w → x.1 = w := fun x hx y => nmI_inj (H.ds x hx) (nm_sm hw) y
      have no : (∀ e ∈ D, ¬ nmI e.1 = nmI w) ↔ ∀ e ∈ D, ¬ e.1 = w := ⟨fun h e he y => h e he (by rw [y]), fun h e he y => h e he (inj e he y)⟩
      rw [no] at a
      rcases a with ⟨a0, a1, rfl, rfl⟩ | ⟨a0, a1, rfl, rfl⟩ | ⟨p, x, hp, h1, rfl, rfl⟩
      · rcases b with ⟨_, _, rfl, rfl⟩ | ⟨b0, _⟩ | ⟨p, x, hp, h1, _⟩
        · exact ⟨rfl, rfl, H⟩
        · omega
        · exact absurd h1 (a1 x (List.mem_of_getElem? hp))
      · rcases b with ⟨b0, _⟩ | ⟨_, _, rfl, rfl⟩ | ⟨p, x, hp, h1, _⟩
        · omega
        · refine ⟨rfl, rfl, s_D H (fun e he => ?_) ?_⟩
          · rcases List.mem_append.mp he with y | y
            · exact H.ds e y
            · rw [List.mem_singleton.mp y]; exact nm_sm hw
          · rw [List.pairwise_append]
            exact ⟨H.dn, List.pairwise_singleton _ _, fun x hx y hy => by rw [List.mem_singleton.mp hy]; exact a1 x hx⟩
        · exact absurd h1 (a1 x (List.mem_of_getElem? hp))
      · have h1' := inj x (List.mem_of_getElem? hp) h1
        rcases b with ⟨_, b1, _⟩ | ⟨_, b1, _⟩ | ⟨p', x', hp', g1, _, rfl, rfl⟩
        · exact absurd h1' (b1 x (List.mem_of_getElem? hp))
        · exact absurd h1' (b1 x (List.mem_of_getElem? hp))
        · have := dn_uq H hp hp' (h1'.trans g1.symm)
          subst this
          refine ⟨rfl, rfl, s_D H (fun e he => ?_) ?_⟩
          · rcases List.mem_or_eq_of_mem_set he with y | y
            · exact H.ds e y
            · rw [y]; exact nm_sm hw
          · rw [List.pairwise_iff_getElem]
            intro i j hi hj hij
            rw [List.length_set] at hi hj
            have key : ∀ k (hk : k < D.length), ((D.set p (w, R))[k]'(by rw [List.length_set]; exact hk)).1 = D[k].1 := fun k hk => by
              rw [List.getElem_set]
              split
              · rename_i y
                subst y
                rw [List.getElem?_eq_getElem hk] at hp
                cases hp
                exact h1'.symm
              · rfl
            rw [key i hi, key j hj]
            exact List.pairwise_iff_getElem.mp H.dn i j hi hj hij
theorem s_owner {ws : List kW} {g : kG} {v v2 : Option Value} (H : inv I J nx D K) (hg : g ∈ K) (a : owP ws g v) (b : owR ws g v2) : v2 = v := by
  rcases a with ⟨w, e, hw, a⟩ | ⟨a1, rfl⟩
  · rcases b with ⟨w', e', hw', b⟩ | ⟨b1, _⟩
    · rw [e] at e'
      cases e'
      have key : ∀ x ∈ g, ((∃ u ∈ lOw x.1, ∀ k, k < 3 → ptI u k = ptI w k) ↔ w ∈ lOw x.1) := fun x hx => ⟨fun ⟨u, hu, h⟩ => by rw [← pt_inj hw ((((H.gk g hg).e hx).1).2 u hu) h]; exact hu, fun h => ⟨w, h, fun _ _ => rfl⟩⟩
      rcases a with ⟨j, x, hj, h1, h2, rfl⟩ | ⟨a1, rfl⟩
      · have h1' := (key x (List.mem_of_getElem? hj)).mp h1
        rcases b with ⟨j', x', hj', g1, g2, rfl⟩ | ⟨b1, _⟩
        · have : j = j' := by
            rcases Nat.lt_trichotomy j j' with y | y | y
            · exact absurd h1' (g2 j x y hj)
            · exact y
            · exact absurd ((key x' (List.mem_of_getElem? hj')).mpr g1) (h2 j' x' y hj')
          subst this
          rw [hj] at hj'
          cases hj'
          rfl
        · exact absurd h1' (b1 x (List.mem_of_getElem? hj))
      · rcases b with ⟨j', x', hj', g1, _⟩ | ⟨_, rfl⟩
        · exact absurd ((key x' (List.mem_of_getElem? hj')).mpr g1) (a1 x' (List.mem_of_getElem? hj'))
        · rfl
    · exact absurd ⟨w, e, hw⟩ b1
  · rcases b with ⟨w', e', hw', b⟩ | ⟨_, rfl⟩
    · exact absurd ⟨w', e', hw'⟩ a1
    · rfl
end MB2
