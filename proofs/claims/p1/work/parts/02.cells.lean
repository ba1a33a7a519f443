/-! THE PURE MACHINE, 1: its values, cells, locals; what a heap has to do with a list of cells. References are counted from a base b; '.retAddr k' stands for the string constant k, at sa k. -/
def ab_v (b : Nat) (sa : Nat → Nat) (v : Value) : Value := match v with
  | .ref a => .ref (b + a)
  | .retAddr k => .ref (sa k)
  | w => w
theorem ab_v_cat (b : Nat) (sa : Nat → Nat) (v : Value) : (ab_v b sa v).category = v.category := by cases v <;> rfl
abbrev ab_A : Type := (Nat → Int32) ⊕ (Nat → Int64) ⊕ (Nat → UInt32) ⊕ (Nat → UInt64) ⊕ (Nat → Option Nat)
def ab_a (b : Nat) (x : ab_A) : ab_A := match x with
  | .inr (.inr (.inr (.inr f))) => .inr (.inr (.inr (.inr (fun j => (f j).map (fun q => b + q)))))
  | y => y
def ab_e (b : Nat) (sa : Nat → Nat) (dA : Nat → ClassId) (e : va_E) : va_E := match e with
  | .inl (t, n, x) => .inl (dA t, n, ab_a b x)
  | .inr (ci, fs) => .inr (ci, fs.map (ab_v b sa))
def ab_P (b : Nat) (sa : Nat → Nat) (D : va_G) (dA : Nat → ClassId) (cl : List vw_C) (h : List va_E) (H : Heap) : Prop :=
  H.size = b + h.length ∧ ∀ (i : Nat) (e : va_E), h[i]? = some e → va_at D cl (b + i, ab_e b sa dA e) H
theorem ab_P.set {b : Nat} {sa : Nat → Nat} {D : va_G} {dA : Nat → ClassId} {cl : List vw_C} {h : List va_E} {H H1 : Heap} {i : Nat} {e e' : va_E} (hP : ab_P b sa D dA cl h H) (hi : h[i]? = some e) (z : H1.size = H.size) (oq : ∀ q : Nat, q ≠ b + i → H1[q]? = H[q]?) (he : va_at D cl (b + i, ab_e b sa dA e') H1) : ab_P b sa D dA cl (h.set i e') H1 := by
  have hl := (List.getElem?_eq_some_iff.mp hi).1
  refine ⟨by rw [z, hP.1, List.length_set], fun k x hk => ?_⟩
  by_cases hki : k = i
  · subst hki
    rw [List.getElem?_set_self hl] at hk
    cases hk
    exact he
  · rw [List.getElem?_set_ne (Ne.symm hki)] at hk
    exact (hP.2 k x hk).kept (oq (b + k) (by omega))
theorem ab_P.push {b : Nat} {sa : Nat → Nat} {D : va_G} {dA : Nat → ClassId} {cl : List vw_C} {h : List va_E} {H H1 : Heap} {e : va_E} (hP : ab_P b sa D dA cl h H) (z : H1.size = H.size + 1) (oq : ∀ q : Nat, q < H.size → H1[q]? = H[q]?) (he : va_at D cl (b + h.length, ab_e b sa dA e) H1) : ab_P b sa D dA cl (h ++ [e]) H1 := by
  refine ⟨by rw [z, hP.1, List.length_append]; rfl, fun k x hk => ?_⟩
  by_cases hl : k < h.length
  · rw [List.getElem?_append_left hl] at hk
    exact (hP.2 k x hk).kept (oq (b + k) (by rw [hP.1]; omega))
  · rw [List.getElem?_append_right (by omega)] at hk
    have hz : k - h.length < 1 := (List.getElem?_eq_some_iff.mp hk).1
    have hk0 : k = h.length := by omega
    subst hk0
    rw [Nat.sub_self] at hk
    cases hk
    exact he
/-- the slots of a cell, of a heap; nf: how many fields a class has -/
def ab_z (nf : Nat → Nat) (e : va_E) : Nat := match e with
  | .inl (_, n, _) => n
  | .inr (ci, _) => nf ci
def ab_sl (nf : Nat → Nat) : List va_E → Nat
  | [] => 0
  | e :: h => ab_z nf e + ab_sl nf h
theorem ab_sl_app (nf : Nat → Nat) (h : List va_E) (e : va_E) : ab_sl nf (h ++ [e]) = ab_sl nf h + ab_z nf e := by
  induction h with
  | nil => simp [ab_sl]
  | cons a h ih => simp only [List.cons_append, ab_sl, ih]; omega
theorem ab_sl_set (nf : Nat → Nat) : ∀ (h : List va_E) (i : Nat) (e e' : va_E), h[i]? = some e → ab_z nf e' = ab_z nf e → ab_sl nf (h.set i e') = ab_sl nf h
  | [], i, e, e', hi, _ => by simp at hi
  | a :: h, 0, e, e', hi, hz => by
    simp only [List.getElem?_cons_zero, Option.some.injEq] at hi
    subst hi
    simp only [List.set_cons_zero, ab_sl, hz]
  | a :: h, i + 1, e, e', hi, hz => by
    simp only [List.getElem?_cons_succ] at hi
    simp only [List.set_cons_succ, ab_sl, ab_sl_set nf h i e e' hi hz]
/-- the locals -/
abbrev ab_Lo : Type := List (Option Value)
def ab_L (b : Nat) (sa : Nat → Nat) (nL : Nat) (ls : Array Slot) (L : ab_Lo) : Prop := ls.size = nL ∧ lv_wf ls ∧ ∀ (i : Nat) (v : Value), L[i]? = some (some v) → ls[i]? = some (.val (ab_v b sa v))
def ab_al (b : Nat) (sa : Nat → Nat) (L : ab_Lo) : List (Nat × Value) := (List.range L.length).filterMap (fun i => match L[i]? with
  | some (some v) => some (i, ab_v b sa v)
  | _ => none)
theorem ab_al_mem {b : Nat} {sa : Nat → Nat} {L : ab_Lo} {i : Nat} {v : Value} (h : L[i]? = some (some v)) : (i, ab_v b sa v) ∈ ab_al b sa L :=
  List.mem_filterMap.mpr ⟨i, List.mem_range.mpr (List.getElem?_eq_some_iff.mp h).1, by rw [h]⟩
theorem ab_al_of {b : Nat} {sa : Nat → Nat} {L : ab_Lo} {q : Nat × Value} (h : q ∈ ab_al b sa L) : ∃ v, L[q.1]? = some (some v) ∧ q.2 = ab_v b sa v := by
  obtain ⟨i, -, hi⟩ := List.mem_filterMap.mp h
  split at hi
  next v hv =>
    cases hi
    exact ⟨v, hv, rfl⟩
  next => cases hi
theorem ab_L.has {b : Nat} {sa : Nat → Nat} {nL : Nat} {ls : Array Slot} {L : ab_Lo} (h : ab_L b sa nL ls L) : lv_has ls nL (ab_al b sa L) := by
  refine ⟨h.1, h.2.1, fun q hq => ?_⟩
  obtain ⟨v, h1, h2⟩ := ab_al_of hq
  rw [h2]
  exact h.2.2 q.1 v h1
/-- a long that ends at place i is gone -/
def ab_c (L : ab_Lo) (i : Nat) : ab_Lo := match i with
  | 0 => L
  | j + 1 => match L[j]? with
    | some (some (.long _)) => L.set j none
    | some (some (.double _)) => L.set j none
    | _ => L
def ab_s1 (L : ab_Lo) (i : Nat) (v : Value) : ab_Lo := (ab_c L i).set i (some v)
def ab_s2 (L : ab_Lo) (i : Nat) (v : Value) : ab_Lo := ((ab_c L i).set i (some v)).set (i + 1) none
theorem ab_c_get {L : ab_Lo} {i j : Nat} {w : Value} (h : (ab_c L i)[j]? = some (some w)) : L[j]? = some (some w) ∧ ¬ (j + 1 = i ∧ w.category = 2) := by
  cases i with
  | zero => exact ⟨h, fun q => by omega⟩
  | succ k =>
    have aux : ∀ (L' : ab_Lo), L' = L.set k none → L'[j]? = some (some w) → L[j]? = some (some w) ∧ ¬ (j + 1 = k + 1 ∧ w.category = 2) := by
      intro L' e h'
      subst e
      by_cases hj : j = k
      · subst hj
        rw [List.getElem?_set] at h'
        simp at h'
      · rw [List.getElem?_set_ne (Ne.symm hj)] at h'
        exact ⟨h', fun q => hj (by omega)⟩
    simp only [ab_c] at h
    split at h
    · exact aux _ rfl h
    · exact aux _ rfl h
    · next n1 n2 =>
      refine ⟨h, fun q => ?_⟩
      have hj : j = k := by omega
      subst hj
      cases w with
      | long x => exact n1 x h
      | double x => exact n2 x h
      | _ => exact absurd q.2 (by simp [Value.category])
theorem ab_L.s1 {b : Nat} {sa : Nat → Nat} {nL : Nat} {ls' : Array Slot} {L : ab_Lo} {i : Nat} {v : Value} {w : Value} (hw : w = ab_v b sa v) (h : lv_has ls' nL ((i, w) :: (ab_al b sa L).filter (fun q => !(q.1 == i) && !(q.1 + 1 == i && q.2.category == 2)))) : ab_L b sa nL ls' (ab_s1 L i v) := by
  subst hw
  refine ⟨h.1, h.2.1, fun j x hj => ?_⟩
  unfold ab_s1 at hj
  by_cases hji : j = i
  · subst hji
    rw [List.getElem?_set] at hj
    simp only [if_true] at hj
    split at hj
    · cases hj
      exact h.2.2 (j, ab_v b sa v) List.mem_cons_self
    · cases hj
  · rw [List.getElem?_set_ne (Ne.symm hji)] at hj
    obtain ⟨h1, h2⟩ := ab_c_get hj
    refine h.2.2 (j, ab_v b sa x) (List.mem_cons_of_mem _ (List.mem_filter.mpr ⟨ab_al_mem h1, ?_⟩))
    simp only [ab_v_cat, Bool.and_eq_true, Bool.not_eq_true', beq_eq_false_iff_ne, ne_eq, hji, not_false_eq_true, true_and, Bool.and_eq_false_imp, beq_iff_eq]
    intro q
    exact fun z => h2 ⟨q, z⟩
theorem ab_L.s2 {b : Nat} {sa : Nat → Nat} {nL : Nat} {ls' : Array Slot} {L : ab_Lo} {i : Nat} {v : Value} {w : Value} (hw : w = ab_v b sa v) (h : lv_has ls' nL ((i, w) :: (ab_al b sa L).filter (fun q => !(q.1 == i) && (!(q.1 == i + 1) && !(q.1 + 1 == i && q.2.category == 2))))) : ab_L b sa nL ls' (ab_s2 L i v) := by
  subst hw
  refine ⟨h.1, h.2.1, fun j x hj => ?_⟩
  unfold ab_s2 at hj
  by_cases hj1 : j = i + 1
  · subst hj1
    rw [List.getElem?_set] at hj
    simp only [if_true] at hj
    split at hj <;> cases hj
  · rw [List.getElem?_set_ne (Ne.symm hj1)] at hj
    by_cases hji : j = i
    · subst hji
      rw [List.getElem?_set] at hj
      simp only [if_true] at hj
      split at hj
      · cases hj
        exact h.2.2 (j, ab_v b sa v) List.mem_cons_self
      · cases hj
    · rw [List.getElem?_set_ne (Ne.symm hji)] at hj
      obtain ⟨h1, h2⟩ := ab_c_get hj
      refine h.2.2 (j, ab_v b sa x) (List.mem_cons_of_mem _ (List.mem_filter.mpr ⟨ab_al_mem h1, ?_⟩))
      simp only [ab_v_cat, Bool.and_eq_true, Bool.not_eq_true', beq_eq_false_iff_ne, ne_eq, hji, hj1, not_false_eq_true, true_and, Bool.and_eq_false_imp, beq_iff_eq]
      intro q
      exact fun z => h2 ⟨q, z⟩
/-- the locals with which a method begins -/
def ab_en : List Value → ab_Lo
  | [] => []
  | v :: vs => match v with
    | .long x => some (.long x) :: none :: ab_en vs
    | .double x => some (.double x) :: none :: ab_en vs
    | w => some w :: ab_en vs
theorem ab_en_len (b : Nat) (sa : Nat → Nat) : ∀ vs : List Value, (lg_sl (vs.map (ab_v b sa))).length = (ab_en vs).length
  | [] => rfl
  | v :: vs => by
    have ih := ab_en_len b sa vs
    cases v <;> simp [lg_sl, ab_v, ab_en, Value.category] at ih ⊢ <;> omega
theorem ab_en_get (b : Nat) (sa : Nat → Nat) : ∀ (vs : List Value) (k i : Nat) (v : Value), (ab_en vs)[i]? = some (some v) → (k + i, ab_v b sa v) ∈ lv_args k (vs.map (ab_v b sa))
  | [], k, i, v, h => by simp [ab_en] at h
  | w :: vs, k, i, v, h => by
    have one : ∀ (u : Value), u.category = 1 → (some u :: ab_en vs)[i]? = some (some v) → (k + i, ab_v b sa v) ∈ lv_args k ((u :: vs).map (ab_v b sa)) := by
      intro u hu h
      rw [List.map_cons, lv_args, ab_v_cat, hu, if_neg (by decide)]
      cases i with
      | zero =>
        simp only [List.getElem?_cons_zero, Option.some.injEq] at h
        subst h
        exact List.mem_cons_self
      | succ i =>
        rw [List.getElem?_cons_succ] at h
        have := ab_en_get b sa vs (k + 1) i v h
        rw [show k + (i + 1) = k + 1 + i by omega]
        exact List.mem_cons_of_mem _ this
    have two : ∀ (u : Value), u.category = 2 → (some u :: none :: ab_en vs)[i]? = some (some v) → (k + i, ab_v b sa v) ∈ lv_args k ((u :: vs).map (ab_v b sa)) := by
      intro u hu h
      rw [List.map_cons, lv_args, ab_v_cat, hu, if_pos rfl]
      cases i with
      | zero =>
        simp only [List.getElem?_cons_zero, Option.some.injEq] at h
        subst h
        exact List.mem_cons_self
      | succ i =>
        cases i with
        | zero => simp at h
        | succ i =>
          rw [List.getElem?_cons_succ, List.getElem?_cons_succ] at h
          have := ab_en_get b sa vs (k + 2) i v h
          rw [show k + (i + 1 + 1) = k + 2 + i by omega]
          exact List.mem_cons_of_mem _ this
    cases w with
    | long x => exact two _ rfl h
    | double x => exact two _ rfl h
    | int x => exact one _ rfl h
    | float x => exact one _ rfl h
    | null => exact one _ rfl h
    | ref x => exact one _ rfl h
    | retAddr x => exact one _ rfl h
theorem ab_en_ok (b : Nat) (sa : Nat → Nat) (vs : List Value) {nL : Nat} (hn : (ab_en vs).length ≤ nL) : ab_L b sa nL ((lg_sl (vs.map (ab_v b sa)) ++ List.replicate (nL - (lg_sl (vs.map (ab_v b sa))).length) Slot.unset).toArray) (ab_en vs ++ List.replicate (nL - (ab_en vs).length) none) := by
  have h := lv_entry (vs.map (ab_v b sa)) (n := nL) (by rw [ab_en_len]; exact hn)
  refine ⟨h.1, h.2.1, fun i v hi => ?_⟩
  by_cases hl : i < (ab_en vs).length
  · rw [List.getElem?_append_left hl] at hi
    have := ab_en_get b sa vs 0 i v hi
    rw [Nat.zero_add] at this
    exact h.2.2 _ this
  · rw [List.getElem?_append_right (by omega), List.getElem?_replicate] at hi
    split at hi <;> cases hi
theorem ab_c_len (L : ab_Lo) (i : Nat) : (ab_c L i).length = L.length := by
  unfold ab_c
  split
  · rfl
  · split <;> simp
theorem ab_P.one {b : Nat} {sa : Nat → Nat} {D : va_G} {dA : Nat → ClassId} {cl : List vw_C} {h : List va_E} {H : Heap} {i : Nat} {e : va_E} (hP : ab_P b sa D dA cl h H) (hi : h[i]? = some e) : va_P D cl [(b + i, ab_e b sa dA e)] H := by
  intro k q hk
  have hz : k < 1 := (List.getElem?_eq_some_iff.mp hk).1
  have hk0 : k = 0 := by omega
  subst hk0
  cases hk
  exact hP.2 i e hi
theorem ab_v_w (b : Nat) (sa : Nat → Nat) (o : Option Nat) : ab_v b sa (match o with | none => .null | some a => .ref a) = va_rf (o.map (fun q => b + q)) := by
  cases o <;> rfl
theorem ab_v_def (b : Nat) (sa : Nat → Nat) (ty : FieldType) : ab_v b sa (defaultValue ty) = defaultValue ty := by
  cases ty <;> rfl
theorem ab_sum (b : Nat) (sa : Nat → Nat) (st : List Value) : ((st.map (ab_v b sa)).map fun v => v.category).sum = (st.map fun v => v.category).sum := by
  rw [List.map_map]
  congr 1
  exact List.map_congr_left (fun v _ => ab_v_cat b sa v)
