/-! THE PURE MACHINE, 7: its own logic. rt_ X d M pc L st h Q: from there it comes to an end with Q. -/
theorem ab_g_s (X : Nat × (Nat → Int32)) (n d M pc : Nat) (L : ab_Lo) (st : List Value) (h : List va_E) : ab_g X (n + 1) d M pc L st h = match ab_s X M pc L st h with
    | none => none
    | some (.inl (pc', L', st', h')) => ab_g X n d M pc' L' st' h'
    | some (.inr (.inl (M', as, rest))) => match d with
      | 0 => none
      | d' + 1 => if ab_cok M' as rest = true then (match ab_g X n d' M' 0 (ab_en as ++ List.replicate (tb_max M' - (ab_en as).length) none) [] h with
        | none => none
        | some (v, h') => ab_g X n (d' + 1) M (pc + 3) L (v.toList ++ rest) h') else none
    | some (.inr (.inr v)) => if ab_rt M v = true then some (v, h) else none := rfl
theorem ab_more (X : Nat × (Nat → Int32)) : ∀ (n d M pc : Nat) (L : ab_Lo) (st : List Value) (h : List va_E) (r : Option Value × List va_E), ab_g X n d M pc L st h = some r → ab_g X (n + 1) d M pc L st h = some r := by
  intro n
  induction n with
  | zero => intro d M pc L st h r hs; cases hs
  | succ n ih =>
    intro d M pc L st h r hs
    rw [ab_g_s] at hs ⊢
    cases hx : ab_s X M pc L st h with
    | none => rw [hx] at hs; cases hs
    | some y =>
      rw [hx] at hs
      rcases y with ⟨pc', L', st', h'⟩ | ⟨M', as, rest⟩ | v
      · exact ih _ _ _ _ _ _ _ hs
      · cases d with
        | zero => cases hs
        | succ d' =>
          dsimp only at hs ⊢
          by_cases hc : ab_cok M' as rest = true
          · rw [if_pos hc] at hs ⊢
            cases hg : ab_g X n d' M' 0 (ab_en as ++ List.replicate (tb_max M' - (ab_en as).length) none) [] h with
            | none => rw [hg] at hs; cases hs
            | some z =>
              obtain ⟨v1, h1⟩ := z
              rw [hg] at hs
              rw [ih _ _ _ _ _ _ _ hg]
              exact ih _ _ _ _ _ _ _ hs
          · rw [if_neg hc] at hs; cases hs
      · exact hs
theorem ab_mono {X : Nat × (Nat → Int32)} {n k d M pc : Nat} {L : ab_Lo} {st : List Value} {h : List va_E} {r : Option Value × List va_E} (hk : n ≤ k) (hs : ab_g X n d M pc L st h = some r) : ab_g X k d M pc L st h = some r := by
  induction hk with
  | refl => exact hs
  | step _ ih => exact ab_more _ _ _ _ _ _ _ _ _ ih
def rt_ (X : Nat × (Nat → Int32)) (d M pc : Nat) (L : ab_Lo) (st : List Value) (h : List va_E) (Q : Option Value → List va_E → Prop) : Prop := ∃ (n : Nat) (v : Option Value) (h' : List va_E), ab_g X n d M pc L st h = some (v, h') ∧ Q v h'
section RT7
variable {X : Nat × (Nat → Int32)} {d M pc : Nat} {L : ab_Lo} {st : List Value} {h : List va_E} {Q : Option Value → List va_E → Prop}
theorem rt_n {pc' : Nat} {L' : ab_Lo} {st' : List Value} {h' : List va_E} (hs : ab_s X M pc L st h = some (.inl (pc', L', st', h'))) (k : rt_ X d M pc' L' st' h' Q) : rt_ X d M pc L st h Q := by
  obtain ⟨n, v, h9, e, q⟩ := k
  exact ⟨n + 1, v, h9, by rw [ab_g_s, hs]; exact e, q⟩
theorem rt_c {M' : Nat} {as rest : List Value} {P : Option Value → List va_E → Prop} (hs : ab_s X M pc L st h = some (.inr (.inl (M', as, rest)))) (hc : ab_cok M' as rest = true) (k1 : rt_ X d M' 0 (ab_en as ++ List.replicate (tb_max M' - (ab_en as).length) none) [] h P) (k2 : ∀ v h', P v h' → rt_ X (d + 1) M (pc + 3) L (v.toList ++ rest) h' Q) : rt_ X (d + 1) M pc L st h Q := by
  obtain ⟨n1, v1, h1, e1, q1⟩ := k1
  obtain ⟨n2, v, h', e2, q⟩ := k2 v1 h1 q1
  refine ⟨max n1 n2 + 1, v, h', ?_, q⟩
  rw [ab_g_s, hs]
  dsimp only
  rw [if_pos hc, ab_mono (Nat.le_max_left n1 n2) e1]
  exact ab_mono (Nat.le_max_right n1 n2) e2
theorem rt_r {v : Option Value} (hs : ab_s X M pc L st h = some (.inr (.inr v))) (hr : ab_rt M v = true) (q : Q v h) : rt_ X d M pc L st h Q :=
  ⟨1, v, h, by rw [ab_g_s, hs]; exact if_pos hr, q⟩
theorem rt_k {k : Nat} {pc' : Nat} {L' : ab_Lo} {st' : List Value} {h' : List va_E} (hs : ∀ n, ab_g X (n + k) d M pc L st h = ab_g X n d M pc' L' st' h') (q : rt_ X d M pc' L' st' h' Q) : rt_ X d M pc L st h Q := by
  obtain ⟨n, v, h9, e, q⟩ := q
  exact ⟨n + k, v, h9, (hs n).trans e, q⟩
theorem rt_w {P : Option Value → List va_E → Prop} (k : rt_ X d M pc L st h P) (hw : ∀ v h', P v h' → Q v h') : rt_ X d M pc L st h Q := by
  obtain ⟨n, v, h9, e, q⟩ := k
  exact ⟨n, v, h9, e, hw _ _ q⟩
end RT7
