/-! WORDS AND WHAT THEY SAY: slices of a tape; versions, tests, ranges, releases as words give them. -/
def sl (T : List Nat) (p q : Nat) : kW := (T.drop p).take (q - p)
theorem sl_len {T : List Nat} {p q : Nat} (hq : q ≤ T.length) : (sl T p q).length = q - p := by
  unfold sl; rw [List.length_take, List.length_drop]; omega
theorem sl_get {T : List Nat} {p q i : Nat} (hi : p + i < q) : (sl T p q)[i]? = T[p + i]? := by
  unfold sl; rw [List.getElem?_take_of_lt (by omega), List.getElem?_drop]
theorem sl_getD {T : List Nat} {p q i : Nat} (hi : p + i < q) : (sl T p q).getD i 0 = T.getD (p + i) 0 := by
  rw [List.getD_eq_getElem?_getD, List.getD_eq_getElem?_getD, sl_get hi]
theorem sl_nil {T : List Nat} {p q : Nat} (h : q ≤ p) : sl T p q = [] := by unfold sl; rw [show q - p = 0 by omega, List.take_zero]
theorem sl_cons {T : List Nat} {p q : Nat} (hp : p < q) (hq : q ≤ T.length) : sl T p q = T.getD p 0 :: sl T (p + 1) q := by
  unfold sl
  have h1 : p < T.length := by omega
  rw [List.drop_eq_getElem_cons h1, show q - p = (q - (p + 1)) + 1 by omega, List.take_succ_cons, List.getD_eq_getElem?_getD, List.getElem?_eq_getElem h1]
  rfl
theorem sl_drop {T : List Nat} {p q i : Nat} : (sl T p q).drop i = sl T (p + i) q := by
  unfold sl; rw [List.drop_take, List.drop_drop, show q - p - i = q - (p + i) by omega]
theorem sl_app {T : List Nat} {p q r : Nat} (h1 : p ≤ q) (h2 : q ≤ r) : sl T p r = sl T p q ++ sl T q r := by
  unfold sl
  have : r - p = (q - p) + (r - q) := by omega
  rw [this, List.take_add, List.drop_drop, show p + (q - p) = q by omega]
theorem sl_mem {T : List Nat} {p q c : Nat} (h : c ∈ sl T p q) : c ∈ T := List.mem_of_mem_drop (List.mem_of_mem_take h)
/-- so far all are such, the next is not -/
theorem sl_while {T : List Nat} {P : Nat → Bool} {b : Nat} (hb : b ≤ T.length) : ∀ (n p q : Nat), q - p = n → p ≤ q → q ≤ b → (∀ i, p ≤ i → i < q → P (T.getD i 0) = true) → (q = b ∨ P (T.getD q 0) = false) → (sl T p b).takeWhile P = sl T p q ∧ (sl T p b).dropWhile P = sl T q b
  | 0, p, q, hn, h1, h2, _, h4 => by
    have e : p = q := by omega
    subst e
    rw [sl_nil (Nat.le_refl _)]
    rcases h4 with h4 | h4
    · subst h4; rw [sl_nil (Nat.le_refl _)]; exact ⟨rfl, rfl⟩
    · by_cases z : p = b
      · subst z; rw [sl_nil (Nat.le_refl _)]; exact ⟨rfl, rfl⟩
      · rw [sl_cons (by omega) hb, List.takeWhile_cons, List.dropWhile_cons, h4]
        exact ⟨rfl, rfl⟩
  | n + 1, p, q, hn, h1, h2, h3, h4 => by
    have ih := sl_while hb n (p + 1) q (by omega) (by omega) h2 (fun i a c => h3 i (by omega) c) h4
    rw [sl_cons (p := p) (q := b) (by omega) hb, List.takeWhile_cons, List.dropWhile_cons, h3 p (Nat.le_refl _) (by omega), sl_cons (p := p) (q := q) (by omega) (by omega)]
    exact ⟨by rw [if_pos rfl, ih.1], by rw [if_pos rfl, ih.2]⟩
theorem sl_while_n {T : List Nat} {P : Nat → Bool} {b : Nat} (hb : b ≤ T.length) : ∀ (n p q : Nat), q - p = n → p ≤ q → q ≤ b → (∀ i, p ≤ i → i < q → P (T.getD i 0) = true) → n ≤ ((sl T p b).takeWhile P).length
  | 0, _, _, _, _, _, _ => Nat.zero_le _
  | n + 1, p, q, hn, h1, h2, h3 => by
    have ih := sl_while_n hb n (p + 1) q (by omega) (by omega) h2 (fun i a c => h3 i (by omega) c)
    rw [sl_cons (p := p) (q := b) (by omega) hb, List.takeWhile_cons, h3 p (Nat.le_refl _) (by omega), if_pos rfl, List.length_cons]
    omega
def alp (c : Nat) : Bool := decide ((97 ≤ c ∧ c ≤ 122) ∨ (65 ≤ c ∧ c ≤ 90))
def mkb (c : Nat) : Bool := dg c || alp c || decide (c = 45)
/-- a name: one to eight small letters, no clause word -/
def isNm (w : kW) : Bool := decide (1 ≤ w.length ∧ w.length ≤ 8) && w.all (fun c => decide (97 ≤ c ∧ c ≤ 122)) && !decide (w = tx 0 ∨ w = tx 1 ∨ w = tx 2)
def isPt (w : kW) : Bool := decide (1 ≤ w.length ∧ w.length ≤ 20) && w.all (fun c => mkb c || decide (c = 46 ∨ c = 47))
/-- digits are a number: one to m, no needless 0 -/
def okN (m : Nat) (w : kW) : Bool := decide (1 ≤ w.length ∧ w.length ≤ m) && (decide (w.length = 1) || !decide (w.getD 0 0 = 48))
def pNum (m : Nat) (w : kW) : Option (Nat × kW) := if okN m (w.takeWhile dg) = true then some (dv (w.takeWhile dg), w.dropWhile dg) else none
def pDot (w : kW) : Option kW := match w with
  | 46 :: t => some t
  | _ => none
/-- a mark: one to eight bytes, digits alone without a needless 0 -/
def okM (w : kW) : Bool := decide (1 ≤ w.length ∧ w.length ≤ 8) && (!(w.all dg) || okN 8 w)
def pMks : Nat → kW → Option (List kW)
  | 0, _ => none
  | n + 1, w => if okM (w.takeWhile mkb) = true then (match w.dropWhile mkb with
    | [] => some [w.takeWhile mkb]
    | c :: t => if c = 46 then (pMks n t).map (fun r => w.takeWhile mkb :: r) else none) else none
def pV3 (w : kW) : Option ((Nat × Nat × Nat) × kW) := (pNum 9 w).bind fun a => (pDot a.2).bind fun b => (pNum 9 b).bind fun c => (pDot c.2).bind fun e => (pNum 9 e).map fun f => ((a.1, c.1, f.1), f.2)
def pVer (w : kW) : Option kV := (pV3 w).bind fun a => match a.2 with
  | [] => some (a.1, [])
  | c :: t => if c = 45 then (pMks 4 t).map (fun m => (a.1, m)) else none
/-- the sign of a test and how long it is -/
def sgn (w : kW) : Nat × Nat := match w with
  | 60 :: 61 :: _ => (3, 2)
  | 62 :: 61 :: _ => (5, 2)
  | 60 :: _ => (2, 1)
  | 62 :: _ => (4, 1)
  | 94 :: _ => (6, 1)
  | 126 :: _ => (7, 1)
  | 61 :: _ => (1, 1)
  | _ => (1, 0)
def pTst (w : kW) : Option kT := if w = tx 3 then some none else (pVer (w.drop (sgn w).2)).map (fun v => some ((sgn w).1, v))
def isCl (w : kW) : Bool := decide (w = tx 0 ∨ w = tx 1 ∨ w = tx 2)
/-- a range: tests, four at most, in choices, four at most; ends before a clause word -/
def pRg : List kW → Nat → Nat → List kT → kR → Option (kR × List kW)
  | [], _, _, _, _ => none
  | w :: ws, nc, nt, q, R => if nt = 4 then none else match pTst w with
    | none => none
    | some t => match ws with
      | [] => some (R ++ [q ++ [t]], [])
      | u :: us => if u = tx 4 then (if nc = 4 then none else pRg us (nc + 1) 0 [] (R ++ [q ++ [t]])) else if isCl u = true then some (R ++ [q ++ [t]], u :: us) else pRg (u :: us) nc (nt + 1) (q ++ [t]) R
def pRng (ws : List kW) : Option (kR × List kW) := pRg ws 1 0 [] []
/-- a word of a tape after the other -/
theorem dw_le {P : Nat → Bool} : ∀ (l : List Nat), (l.dropWhile P).length ≤ l.length
  | [] => Nat.le_refl _
  | a :: l => by
    rw [List.dropWhile_cons]
    split
    · exact Nat.le_succ_of_le (dw_le l)
    · exact Nat.le_refl _
def wlF : Nat → List Nat → List kW
  | 0, _ => []
  | n + 1, T => match T.dropWhile (fun c => decide (c = 32)) with
    | [] => []
    | c :: cs => (c :: cs).takeWhile (fun c => !decide (c = 32)) :: wlF n ((c :: cs).dropWhile (fun c => !decide (c = 32)))
theorem wlF_mo : ∀ (n m : Nat) (T : List Nat), T.length < n → T.length < m → wlF n T = wlF m T
  | 0, _, _, h, _ => absurd h (Nat.not_lt_zero _)
  | _ + 1, 0, _, _, h => absurd h (Nat.not_lt_zero _)
  | n + 1, m + 1, T, h1, h2 => by
    unfold wlF
    have hl := dw_le (P := fun c => decide (c = 32)) T
    cases hd : T.dropWhile (fun c => decide (c = 32)) with
    | nil => rfl
    | cons c cs =>
      rw [hd] at hl
      dsimp only
      have hc : decide (c = 32) = false := by
        have := List.head?_dropWhile_not (fun c => decide (c = 32)) T
        rw [hd] at this
        simpa using this
      have h3 : ((c :: cs).dropWhile (fun c => !decide (c = 32))).length ≤ cs.length := by
        rw [List.dropWhile_cons, hc]
        exact dw_le cs
      rw [List.length_cons] at hl
      rw [wlF_mo n m _ (by omega) (by omega)]
def wl (T : List Nat) : List kW := wlF (T.length + 1) T
