/-! WHAT THE KEEPER SPEAKS OF: words, versions, tests, ranges, releases; how the class's objects hold them. -/
abbrev kW : Type := List Nat
abbrev kV : Type := (Nat × Nat × Nat) × List kW
abbrev kT : Type := Option (Nat × kV)
abbrev kR : Type := List (List kT)
abbrev kD : Type := List (kW × kR)
abbrev kL : Type := Nat × kW × kV × kD × kD × List kW
def lNo (r : kL) : Nat := r.1
def lNm (r : kL) : kW := r.2.1
def lVe (r : kL) : kV := r.2.2.1
def lNe (r : kL) : kD := r.2.2.2.1
def lBr (r : kL) : kD := r.2.2.2.2.1
def lOw (r : kL) : List kW := r.2.2.2.2.2
def lI (n : Nat) : Int64 := Int64.ofNat n
/-- eight bytes and fewer as one number, zeros behind -/
def pk (w : kW) : Nat → Nat
  | 0 => 0
  | n + 1 => pk w n * 256 + w.getD n 0
def nmI (w : kW) : Int64 := lI (pk w 8)
def dg (c : Nat) : Bool := decide (48 ≤ c ∧ c ≤ 57)
/-- the number that digits are -/
def dv (w : kW) : Nat := w.foldl (fun n c => n * 10 + (c - 48)) 0
def mkI (w : kW) : Int64 := if w.all dg = true then lI (dv w) else nmI w
def vk (v : kV) : Nat → Int64
  | 0 => lI v.1.1
  | 1 => lI v.1.2.1
  | 2 => lI v.1.2.2
  | j + 3 => match v.2[j]? with
    | some m => mkI m
    | none => if j = 0 then 9223372036854775807 else -1
def vBrk (v : kV) : kV := if ¬ v.1.1 = 0 then ((v.1.1 + 1, 0, 0), []) else if ¬ v.1.2.1 = 0 then ((v.1.1, v.1.2.1 + 1, 0), []) else ((0, 0, v.1.2.2 + 1), [])
def vMin (v : kV) : kV := ((v.1.1, v.1.2.1 + 1, 0), [])
/-- a test's bounds: 1 the same, 2 below, 3 not above, 4 above, 5 not below, 6 not breaking, 7 of the minor -/
def tsO (t : kT) : Option kV × Bool × Option kV × Bool := match t with
  | none => (none, false, none, false)
  | some (s, v) => if s = 2 then (none, false, some v, false) else if s = 3 then (none, false, some v, true) else if s = 4 then (some v, false, none, false) else if s = 5 then (some v, true, none, false) else if s = 6 then (some v, true, some (vBrk v), false) else if s = 7 then (some v, true, some (vMin v), false) else (some v, true, some v, true)
/-- cells that never change once they are full: not the keeper's own, not the reference's own -/
def zz (a : Nat) : Prop := 17 < a ∧ (a < 23 ∨ 35 < a)
def z_ (h : List va_E) (a : Nat) (e : va_E) : Prop := zz a ∧ h[a]? = some e
def ex_ (h h' : List va_E) : Prop := ∀ a e, z_ h a e → z_ h' a e
theorem ex_refl (h : List va_E) : ex_ h h := fun _ _ q => q
theorem ex_tr {h h1 h2 : List va_E} (a : ex_ h h1) (b : ex_ h1 h2) : ex_ h h2 := fun k e q => b k e (a k e q)
def zV (h : List va_E) (a : Nat) (v : kV) : Prop := ∃ (k : Nat) (f : Nat → Int64), z_ h a (.inr (8, [.ref k])) ∧ z_ h k (.inl (1, 7, .inr (.inl f))) ∧ ∀ i, i < 7 → f i = vk v i
def zO (h : List va_E) (a : Option Nat) (v : Option kV) : Prop := match a, v with
  | none, none => True
  | some a, some v => zV h a v
  | _, _ => False
def zT (h : List va_E) (a : Nat) (t : kT) : Prop := ∃ la ha : Option Nat, z_ h a (.inr (11, [ab_w la, .int (bI (tsO t).2.1), ab_w ha, .int (bI (tsO t).2.2.2)])) ∧ zO h la (tsO t).1 ∧ zO h ha (tsO t).2.2.1
def zRf (h : List va_E) (F : Nat → Option Nat) (S : Nat → Int32) (R : kR) : Prop := ∀ c q, R[c]? = some q → S c = nI q.length ∧ q.length ≤ 4 ∧ ∀ i t, q[i]? = some t → ∃ ta, F (c * 4 + i) = some ta ∧ zT h ta t
def zR (h : List va_E) (a : Nat) (R : kR) : Prop := ∃ (tt sz : Nat) (F : Nat → Option Nat) (S : Nat → Int32), z_ h a (.inr (10, [.ref tt, .ref sz, .int (nI R.length)])) ∧ z_ h tt (.inl (8, 16, .inr (.inr (.inr (.inr F))))) ∧ z_ h sz (.inl (2, 4, .inl S)) ∧ R.length ≤ 4 ∧ zRf h F S R
def zDf (h : List va_E) (N : Nat → Int64) (G : Nat → Option Nat) (D : kD) : Prop := ∀ i e, D[i]? = some e → N i = nmI e.1 ∧ ∃ ra, G i = some ra ∧ zR h ra e.2
def zD (h : List va_E) (a cap : Nat) (D : kD) : Prop := ∃ (nm rg : Nat) (N : Nat → Int64) (G : Nat → Option Nat), z_ h a (.inr (4, [.ref nm, .ref rg, .int (nI D.length)])) ∧ z_ h nm (.inl (1, cap, .inr (.inl N))) ∧ z_ h rg (.inl (6, cap, .inr (.inr (.inr (.inr G))))) ∧ D.length ≤ cap ∧ cap ≤ 6 ∧ zDf h N G D
def ptI (w : kW) (j : Nat) : Int64 := nmI (w.drop (8 * j))
def zPf (pf : Nat → Int64) (O : List kW) : Prop := ∀ i w, O[i]? = some w → ∀ j, j < 3 → pf (i * 3 + j) = ptI w j
def zL (h : List va_E) (a : Nat) (r : kL) : Prop := ∃ (v nd bk ps : Nat) (pf : Nat → Int64), z_ h a (.inr (9, [.int (nI (lNo r)), .long (nmI (lNm r)), .ref v, .ref nd, .ref bk, .ref ps, .int (nI (lOw r).length)])) ∧ zV h v (lVe r) ∧ zD h nd 6 (lNe r) ∧ zD h bk 3 (lBr r) ∧ z_ h ps (.inl (1, 12, .inr (.inl pf))) ∧ (lOw r).length ≤ 4 ∧ zPf pf (lOw r)
theorem zV.ex {h h' : List va_E} {a : Nat} {v : kV} (E : ex_ h h') (C : zV h a v) : zV h' a v := by
  obtain ⟨k, f, c1, c2, c3⟩ := C
  exact ⟨k, f, E _ _ c1, E _ _ c2, c3⟩
theorem zO.ex {h h' : List va_E} {a : Option Nat} {v : Option kV} (E : ex_ h h') (C : zO h a v) : zO h' a v := by
  cases a <;> cases v
  · exact C
  · exact C
  · exact C
  · exact zV.ex E C
theorem zT.ex {h h' : List va_E} {a : Nat} {t : kT} (E : ex_ h h') (C : zT h a t) : zT h' a t := by
  obtain ⟨la, ha, c1, c2, c3⟩ := C
  exact ⟨la, ha, E _ _ c1, c2.ex E, c3.ex E⟩
theorem zRf.ex {h h' : List va_E} {F : Nat → Option Nat} {S : Nat → Int32} {R : kR} (E : ex_ h h') (C : zRf h F S R) : zRf h' F S R := fun c q hq => by
  obtain ⟨a, b, g⟩ := C c q hq
  exact ⟨a, b, fun i t ht => by obtain ⟨ta, u, w⟩ := g i t ht; exact ⟨ta, u, w.ex E⟩⟩
theorem zR.ex {h h' : List va_E} {a : Nat} {R : kR} (E : ex_ h h') (C : zR h a R) : zR h' a R := by
  obtain ⟨tt, sz, F, S, c1, c2, c3, c4, c5⟩ := C
  exact ⟨tt, sz, F, S, E _ _ c1, E _ _ c2, E _ _ c3, c4, c5.ex E⟩
theorem zDf.ex {h h' : List va_E} {N : Nat → Int64} {G : Nat → Option Nat} {D : kD} (E : ex_ h h') (C : zDf h N G D) : zDf h' N G D := fun i e he => by
  obtain ⟨a, ra, b, g⟩ := C i e he
  exact ⟨a, ra, b, g.ex E⟩
theorem zD.ex {h h' : List va_E} {a cap : Nat} {D : kD} (E : ex_ h h') (C : zD h a cap D) : zD h' a cap D := by
  obtain ⟨nm, rg, N, G, c1, c2, c3, c4, c5, c6⟩ := C
  exact ⟨nm, rg, N, G, E _ _ c1, E _ _ c2, E _ _ c3, c4, c5, c6.ex E⟩
theorem zL.ex {h h' : List va_E} {a : Nat} {r : kL} (E : ex_ h h') (C : zL h a r) : zL h' a r := by
  obtain ⟨v, nd, bk, ps, pf, c1, c2, c3, c4, c5, c6, c7⟩ := C
  exact ⟨v, nd, bk, ps, pf, E _ _ c1, c2.ex E, c3.ex E, c4.ex E, E _ _ c5, c6, c7⟩
/-- a heap of which cells that are not frozen change -/
theorem ex_set {h : List va_E} {a : Nat} {e : va_E} (ha : ¬ zz a) : ex_ h (h.set a e) := fun k x q => ⟨q.1, by
  have hk : a ≠ k := fun z => ha (by rw [z]; exact q.1)
  rw [List.getElem?_set_ne hk]; exact q.2⟩
theorem ex_app (h x : List va_E) : ex_ h (h ++ x) := fun _ _ q => ⟨q.1, ha_old x q.2⟩
theorem gt_ex {α : Type} {l : List α} {i : Nat} (hi : i < l.length) : ∃ r, l[i]? = some r := ⟨l[i], List.getElem?_eq_getElem hi⟩
theorem gt_lt {α : Type} {l : List α} {i : Nat} {r : α} (h : l[i]? = some r) : i < l.length := (List.getElem?_eq_some_iff.mp h).1
theorem gt_mem {α : Type} {l : List α} {r : α} (h : r ∈ l) : ∃ i : Nat, l[i]? = some r := List.mem_iff_getElem?.mp h
theorem gt_in {α : Type} {l : List α} {i : Nat} {r : α} (h : l[i]? = some r) : r ∈ l := List.mem_of_getElem? h
/-! the index: at 4, its rows at 5 -/
def cIf (h : List va_E) (F : Nat → Option Nat) (I : List kL) : Prop := ∀ i r, I[i]? = some r → ∃ a, F i = some a ∧ zL h a r
def cI (h : List va_E) (I : List kL) (nx : Nat) : Prop := ∃ F : Nat → Option Nat, h[4]? = some (.inr (3, [.ref 5, .int (nI I.length), .int (nI nx)])) ∧ h[5]? = some (.inl (5, 32, .inr (.inr (.inr (.inr F))))) ∧ I.length ≤ 32 ∧ nx ≤ 600 ∧ cIf h F I
