/-! A TEST's holdsFor. A bound is none, or a version's keys. -/
def bI (b : Bool) : Int32 := if b = true then 1 else 0
def ts_b (h : List va_E) (a : Option Nat) (K : Option (Nat → Int64)) : Prop := match a, K with
  | none, none => True
  | some v, some K => ∃ k, vn_ h v k K
  | _, _ => False
def ts_ (h : List va_E) (a : Nat) (lo : Option (Nat → Int64)) (wl : Bool) (hi : Option (Nat → Int64)) (wh : Bool) : Prop := ∃ la ha : Option Nat, h[a]? = some (.inr (11, [ab_w la, .int (bI wl), ab_w ha, .int (bI wh)])) ∧ ts_b h la lo ∧ ts_b h ha hi
def ts_f (V : Nat → Int64) (K : Option (Nat → Int64)) (z : Int32) : Int32 := match K with
  | none => z
  | some K => vn_c V K 7 0
def ts_h (fl fh : Int32) (wl wh : Bool) : Int32 := if ((ab_cd .gt fl 0 || (!ab_cd .ne fl 0 && wl)) && (ab_cd .lt fh 0 || (!ab_cd .ne fh 0 && wh))) = true then 1 else 0
theorem ts_2 {X : Nat × (Nat → Int32)} {d a v : Nat} {h : List va_E} {la ha : Value} {wl wh : Bool} (c1 : h[a]? = some (.inr (11, [la, .int (bI wl), ha, .int (bI wh)]))) (fl fh : Int32) : rt_ X d 82 40 [some (.ref a), some (.ref v), some (.int fl), some (.int fh)] [] h (fun r h' => r = some (.int (ts_h fl fh wl wh)) ∧ h' = h) := by
  unfold ts_h
  cases wl <;> cases wh
  all_goals repeat' (first | refine rt_n rfl ?_ | refine rt_gf rfl c1 rfl rfl ?_ | refine rt_if rfl (fun z => ?_) (fun z => ?_))
  all_goals first | (refine rt_r (v := some (.int 1)) rfl rfl ⟨?_, rfl⟩; simp_all; done) | (refine rt_r (v := some (.int 0)) rfl rfl ⟨?_, rfl⟩; simp_all; done)
theorem ts_1 {X : Nat × (Nat → Int32)} {d a v k : Nat} {h : List va_E} {la : Value} {ha : Option Nat} {wl wh : Bool} {V : Nat → Int64} {hi : Option (Nat → Int64)} (c1 : h[a]? = some (.inr (11, [la, .int (bI wl), ab_w ha, .int (bI wh)]))) (U : vn_ h v k V) (b2 : ts_b h ha hi) (fl : Int32) : rt_ X (d + 1) 82 19 [some (.ref a), some (.ref v), none, none] [.int fl] h (fun r h' => r = some (.int (ts_h fl (ts_f V hi (-1)) wl wh)) ∧ h' = h) := by
  refine rt_n rfl ?_
  refine rt_n rfl ?_
  refine rt_gf rfl c1 rfl rfl ?_
  cases ha with
  | none =>
    cases hi with
    | some K => exact b2.elim
    | none =>
      refine rt_n rfl ?_
      refine rt_n rfl ?_
      refine rt_n rfl ?_
      refine rt_n rfl ?_
      exact ts_2 c1 fl (-1)
  | some w =>
    cases hi with
    | none => exact b2.elim
    | some K =>
      obtain ⟨g, G⟩ := b2
      refine rt_n rfl ?_
      refine rt_n rfl ?_
      refine rt_n rfl ?_
      refine rt_gf rfl c1 rfl rfl ?_
      refine rt_cv rfl (by decide) U.1 rfl rfl rfl rfl (vn_against U G) ?_
      rintro r h1 ⟨rfl, rfl⟩
      refine rt_n rfl ?_
      exact ts_2 c1 fl _
theorem ts_holds {X : Nat × (Nat → Int32)} {d a v k : Nat} {h : List va_E} {wl wh : Bool} {V : Nat → Int64} {lo hi : Option (Nat → Int64)} (C : ts_ h a lo wl hi wh) (U : vn_ h v k V) : rt_ X (d + 1) 82 0 [some (.ref a), some (.ref v), none, none] [] h (fun r h' => r = some (.int (ts_h (ts_f V lo 1) (ts_f V hi (-1)) wl wh)) ∧ h' = h) := by
  obtain ⟨la, ha, c1, b1, b2⟩ := C
  refine rt_n rfl ?_
  refine rt_gf rfl c1 rfl rfl ?_
  cases la with
  | none =>
    cases lo with
    | some K => exact b1.elim
    | none =>
      refine rt_n rfl ?_
      refine rt_n rfl ?_
      refine rt_n rfl ?_
      exact ts_1 c1 U b2 1
  | some w =>
    cases lo with
    | none => exact b1.elim
    | some K =>
      obtain ⟨g, G⟩ := b1
      refine rt_n rfl ?_
      refine rt_n rfl ?_
      refine rt_n rfl ?_
      refine rt_gf rfl c1 rfl rfl ?_
      refine rt_cv rfl (by decide) U.1 rfl rfl rfl rfl (vn_against U G) ?_
      rintro r h1 ⟨rfl, rfl⟩
      exact ts_1 c1 U b2 _
