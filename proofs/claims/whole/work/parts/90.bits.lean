/-! THE BITS OF A MASK, counted as the library does it. -/
def dsm (f : Nat → Nat) (R : Nat) : Nat → Nat → Nat
  | 0, _ => 0
  | n + 1, x => f (x % R) + R * dsm f R n (x / R)
def rpt (m R : Nat) : Nat → Nat
  | 0 => 0
  | n + 1 => m + R * rpt m R n
def gsm (f : Nat → Nat) (R : Nat) : Nat → Nat → Nat
  | 0, _ => 0
  | n + 1, x => f (x % R) + gsm f R n (x / R)
theorem and_s (k x m M : Nat) (hm : m < 2 ^ k) : x &&& (m + 2 ^ k * M) = ((x % 2 ^ k) &&& m) + 2 ^ k * ((x / 2 ^ k) &&& M) := by
  have h1 : (x &&& (m + 2 ^ k * M)) % 2 ^ k = (x % 2 ^ k) &&& m := by
    rw [Nat.and_mod_two_pow, Nat.add_mul_mod_self_left, Nat.mod_eq_of_lt hm]
  have h2 : (x &&& (m + 2 ^ k * M)) / 2 ^ k = (x / 2 ^ k) &&& M := by
    rw [Nat.and_div_two_pow, Nat.add_mul_div_left _ _ (Nat.two_pow_pos k), Nat.div_eq_of_lt hm, Nat.zero_add]
  rw [← h1, ← h2]
  exact (Nat.mod_add_div _ _).symm
theorem and_1 (x : Nat) : x &&& 1 = x % 2 := Nat.and_two_pow_sub_one_eq_mod x 1
theorem and_3 (x : Nat) : x &&& 3 = x % 4 := Nat.and_two_pow_sub_one_eq_mod x 2
theorem and_15 (x : Nat) : x &&& 15 = x % 16 := Nat.and_two_pow_sub_one_eq_mod x 4
theorem and_63 (x : Nat) : x &&& 63 = x % 64 := Nat.and_two_pow_sub_one_eq_mod x 6
theorem bc_1 : ∀ (n u : Nat), (u / 2) &&& rpt 1 4 n = dsm (fun d => d / 2) 4 n u
  | 0, u => by rw [rpt, dsm, Nat.and_zero]
  | n + 1, u => by
    rw [rpt, dsm, and_s 2 _ 1 _ (by decide), and_1]
    have e : u / 2 / 2 ^ 2 = u / 4 / 2 := by omega
    rw [e, bc_1 n (u / 4)]
    have : u / 2 % 2 ^ 2 % 2 = u % 4 / 2 := by omega
    rw [this]
theorem dsm_id (k : Nat) : ∀ (n u : Nat), u < (2 ^ k) ^ n → dsm (fun d => d) (2 ^ k) n u = u
  | 0, u, h => by rw [Nat.pow_zero] at h; rw [dsm]; omega
  | n + 1, u, h => by
    rw [dsm, dsm_id k n (u / 2 ^ k) (by rw [Nat.div_lt_iff_lt_mul (Nat.two_pow_pos k)]; rwa [Nat.pow_succ] at h)]
    exact Nat.mod_add_div _ _
theorem dsm_add (f g : Nat → Nat) (R : Nat) : ∀ (n u : Nat), dsm f R n u + dsm g R n u = dsm (fun d => f d + g d) R n u
  | 0, _ => rfl
  | n + 1, u => by
    rw [dsm, dsm, dsm, ← dsm_add f g R n (u / R), Nat.mul_add]
    omega
theorem dsm_cg {f g : Nat → Nat} {R : Nat} (hR : 0 < R) (h : ∀ d, d < R → f d = g d) : ∀ (n u : Nat), dsm f R n u = dsm g R n u
  | 0, _ => rfl
  | n + 1, u => by rw [dsm, dsm, h _ (Nat.mod_lt _ hR), dsm_cg hR h n]
def c2 (d : Nat) : Nat := d - d / 2
def c4 (e : Nat) : Nat := c2 (e % 4) + c2 (e / 4)
def c8 (b : Nat) : Nat := c4 (b % 16) + c4 (b / 16)
theorem dsm_2 (f : Nat → Nat) (R : Nat) (hR : 0 < R) : ∀ (n u : Nat), dsm f R (2 * n) u = dsm (fun e => f (e % R) + R * f (e / R)) (R * R) n u
  | 0, _ => rfl
  | n + 1, u => by
    show dsm f R (2 * n + 1 + 1) u = _
    rw [dsm, dsm, dsm, dsm_2 f R hR n]
    have e1 : u % (R * R) % R = u % R := Nat.mod_mul_right_mod u R R
    have e2 : u % (R * R) / R = u / R % R := Nat.mod_mul_right_div_self u R R
    rw [e1, e2, Nat.div_div_eq_div_mul, Nat.mul_add, Nat.mul_assoc, Nat.add_assoc]
theorem bc_2a (g : Nat → Nat) (hg : ∀ e, e < 16 → g e < 16) : ∀ (n u : Nat), dsm g 16 n u &&& rpt 3 16 n = dsm (fun e => g e % 4) 16 n u
  | 0, u => by rw [rpt, dsm, dsm, Nat.and_zero]
  | n + 1, u => by
    have h0 := hg (u % 16) (Nat.mod_lt _ (by decide))
    rw [rpt, and_s 4 _ 3 _ (by decide), and_3]
    have e1 : dsm g 16 (n + 1) u / 2 ^ 4 = dsm g 16 n (u / 16) := by rw [dsm]; omega
    have e2 : dsm g 16 (n + 1) u % 2 ^ 4 % 4 = g (u % 16) % 4 := by rw [dsm]; omega
    rw [e1, e2, bc_2a g hg n]
    rfl
theorem bc_2b (g : Nat → Nat) (hg : ∀ e, e < 16 → g e < 16) : ∀ (n u : Nat), (dsm g 16 n u / 4) &&& rpt 3 16 n = dsm (fun e => g e / 4) 16 n u
  | 0, u => by rw [rpt, dsm, Nat.and_zero]; rfl
  | n + 1, u => by
    have h0 := hg (u % 16) (Nat.mod_lt _ (by decide))
    rw [rpt, and_s 4 _ 3 _ (by decide), and_3]
    have e1 : dsm g 16 (n + 1) u / 4 / 2 ^ 4 = dsm g 16 n (u / 16) / 4 := by rw [dsm]; omega
    have e2 : dsm g 16 (n + 1) u / 4 % 2 ^ 4 % 4 = g (u % 16) / 4 := by rw [dsm]; omega
    rw [e1, e2, bc_2b g hg n]
    rfl
theorem bc_3 (g : Nat → Nat) (hg : ∀ b, b < 256 → g b % 16 ≤ 4 ∧ g b / 16 ≤ 4) : ∀ (n u : Nat), (dsm g 256 n u + dsm g 256 n u / 16) &&& rpt 15 256 n = dsm (fun b => g b % 16 + g b / 16) 256 n u
  | 0, u => by rw [rpt, dsm, dsm, Nat.and_zero]
  | n + 1, u => by
    have h0 := hg (u % 256) (Nat.mod_lt _ (by decide))
    have h1 : dsm g 256 n (u / 256) % 16 ≤ 4 := by
      cases n with
      | zero => rw [dsm]; decide
      | succ m =>
        have h2 := hg (u / 256 % 256) (Nat.mod_lt _ (by decide))
        rw [dsm]; omega
    rw [rpt, and_s 8 _ 15 _ (by decide), and_15]
    have e1 : (dsm g 256 (n + 1) u + dsm g 256 (n + 1) u / 16) / 2 ^ 8 = dsm g 256 n (u / 256) + dsm g 256 n (u / 256) / 16 := by rw [dsm]; omega
    have e2 : (dsm g 256 (n + 1) u + dsm g 256 (n + 1) u / 16) % 2 ^ 8 % 16 = g (u % 256) % 16 + g (u % 256) / 16 := by rw [dsm]; omega
    rw [e1, e2, bc_3 g hg n]
    rfl
def cNt : Nat → Nat → Nat
  | 0, _ => 0
  | n + 1, u => u % 2 + cNt n (u / 2)
theorem cNt_s : ∀ (n u : Nat), cNt (n + 1) u = cNt n u + u / 2 ^ n % 2
  | 0, u => by rw [cNt, cNt, cNt, Nat.pow_zero, Nat.div_one]; omega
  | n + 1, u => by
    rw [cNt, cNt_s n, cNt, Nat.div_div_eq_div_mul, Nat.pow_succ, Nat.mul_comm 2 (2 ^ n)]
    omega
theorem cNt_8 (n u : Nat) : cNt (n + 8) u = cNt 8 (u % 256) + cNt n (u / 256) := by
  show u % 2 + (u / 2 % 2 + (u / 2 / 2 % 2 + (u / 2 / 2 / 2 % 2 + (u / 2 / 2 / 2 / 2 % 2 + (u / 2 / 2 / 2 / 2 / 2 % 2 + (u / 2 / 2 / 2 / 2 / 2 / 2 % 2 + (u / 2 / 2 / 2 / 2 / 2 / 2 / 2 % 2 + cNt n (u / 2 / 2 / 2 / 2 / 2 / 2 / 2 / 2)))))))) = (u % 256 % 2 + (u % 256 / 2 % 2 + (u % 256 / 2 / 2 % 2 + (u % 256 / 2 / 2 / 2 % 2 + (u % 256 / 2 / 2 / 2 / 2 % 2 + (u % 256 / 2 / 2 / 2 / 2 / 2 % 2 + (u % 256 / 2 / 2 / 2 / 2 / 2 / 2 % 2 + (u % 256 / 2 / 2 / 2 / 2 / 2 / 2 / 2 % 2 + 0)))))))) + cNt n (u / 256)
  have e : u / 2 / 2 / 2 / 2 / 2 / 2 / 2 / 2 = u / 256 := by omega
  rw [e]
  omega
set_option maxRecDepth 20000 in
theorem c8_b : ∀ b : Fin 256, c8 b.1 = cNt 8 b.1 := by decide
set_option maxRecDepth 20000 in
theorem c8_l : ∀ b : Fin 256, c8 b.1 ≤ 8 ∧ (c4 (b.1 % 16) ≤ 4 ∧ c4 (b.1 / 16) ≤ 4) := by decide
/-- the library's way, on naturals -/
theorem bc_all (u : Nat) (hu : u < 4294967296) : ∃ i1 i2 i3 : Nat, u - ((u / 2) &&& 1431655765) = i1 ∧ (u / 2 &&& 1431655765) ≤ u ∧ i1 ≤ u ∧ (i1 &&& 858993459) + ((i1 / 4) &&& 858993459) = i2 ∧ i2 < 4294967296 ∧ (i2 + i2 / 16) &&& 252645135 = i3 ∧ i2 + i2 / 16 < 4294967296 ∧ i3 + i3 / 256 < 4294967296 ∧ (i3 + i3 / 256) + (i3 + i3 / 256) / 65536 < 4294967296 ∧ ((i3 + i3 / 256) + (i3 + i3 / 256) / 65536) &&& 63 = cNt 32 u := by
  have m1 : (1431655765 : Nat) = rpt 1 4 16 := by decide
  have m2 : (858993459 : Nat) = rpt 3 16 8 := by decide
  have m3 : (252645135 : Nat) = rpt 15 256 4 := by decide
  have s1 := bc_1 16 u
  have s2 : dsm (fun d => d) 4 16 u = u := dsm_id 2 16 u (by simpa using hu)
  have s3 : dsm c2 4 16 u + dsm (fun d => d / 2) 4 16 u = u := by
    rw [dsm_add, dsm_cg (g := fun d => d) (by decide) (fun d _ => by unfold c2; omega), s2]
  have t1 : u - ((u / 2) &&& 1431655765) = dsm c2 4 16 u := by rw [m1, s1]; omega
  have e2 : dsm c2 4 16 u = dsm (fun e => c2 (e % 4) + 4 * c2 (e / 4)) 16 8 u := dsm_2 c2 4 (by decide) 8 u
  have g16 : ∀ e, e < 16 → c2 (e % 4) + 4 * c2 (e / 4) < 16 := fun e he => by unfold c2; omega
  have t2 : (dsm c2 4 16 u &&& 858993459) + ((dsm c2 4 16 u / 4) &&& 858993459) = dsm c4 16 8 u := by
    rw [e2, m2, bc_2a _ g16, bc_2b _ g16, dsm_add]
    exact dsm_cg (by decide) (fun e he => by unfold c4 c2; omega) _ _
  have e3 : dsm c4 16 8 u = dsm (fun b => c4 (b % 16) + 16 * c4 (b / 16)) 256 4 u := dsm_2 c4 16 (by decide) 4 u
  have g256 : ∀ b, b < 256 → (c4 (b % 16) + 16 * c4 (b / 16)) % 16 ≤ 4 ∧ (c4 (b % 16) + 16 * c4 (b / 16)) / 16 ≤ 4 := fun b hb => by
    have := (c8_l ⟨b, hb⟩).2
    dsimp only at this
    omega
  have t3 : (dsm c4 16 8 u + dsm c4 16 8 u / 16) &&& 252645135 = dsm c8 256 4 u := by
    rw [e3, m3, bc_3 _ g256]
    refine dsm_cg (by decide) (fun b hb => ?_) _ _
    have := (c8_l ⟨b, hb⟩).2
    dsimp only at this
    unfold c8
    omega
  have q0 := (c8_l ⟨u % 256, Nat.mod_lt _ (by decide)⟩).1
  have q1 := (c8_l ⟨u / 256 % 256, Nat.mod_lt _ (by decide)⟩).1
  have q2 := (c8_l ⟨u / 256 / 256 % 256, Nat.mod_lt _ (by decide)⟩).1
  have q3 := (c8_l ⟨u / 256 / 256 / 256 % 256, Nat.mod_lt _ (by decide)⟩).1
  dsimp only at q0 q1 q2 q3
  have x3 : dsm c8 256 4 u = c8 (u % 256) + 256 * (c8 (u / 256 % 256) + 256 * (c8 (u / 256 / 256 % 256) + 256 * (c8 (u / 256 / 256 / 256 % 256) + 256 * 0))) := rfl
  have x2 : dsm c4 16 8 u < 1157627904 := by
    have w0 := (c8_l ⟨u % 256, Nat.mod_lt _ (by decide)⟩).2
    have w1 := (c8_l ⟨u / 256 % 256, Nat.mod_lt _ (by decide)⟩).2
    have w2 := (c8_l ⟨u / 256 / 256 % 256, Nat.mod_lt _ (by decide)⟩).2
    have w3 := (c8_l ⟨u / 256 / 256 / 256 % 256, Nat.mod_lt _ (by decide)⟩).2
    dsimp only at w0 w1 w2 w3
    rw [e3]
    show (c4 (u % 256 % 16) + 16 * c4 (u % 256 / 16)) + 256 * ((c4 (u / 256 % 256 % 16) + 16 * c4 (u / 256 % 256 / 16)) + 256 * ((c4 (u / 256 / 256 % 256 % 16) + 16 * c4 (u / 256 / 256 % 256 / 16)) + 256 * ((c4 (u / 256 / 256 / 256 % 256 % 16) + 16 * c4 (u / 256 / 256 / 256 % 256 / 16)) + 256 * 0))) < _
    omega
  have x9 : cNt 32 u = c8 (u % 256) + (c8 (u / 256 % 256) + (c8 (u / 256 / 256 % 256) + c8 (u / 256 / 256 / 256 % 256))) := by
    have y0 := c8_b ⟨u % 256, Nat.mod_lt _ (by decide)⟩
    have y1 := c8_b ⟨u / 256 % 256, Nat.mod_lt _ (by decide)⟩
    have y2 := c8_b ⟨u / 256 / 256 % 256, Nat.mod_lt _ (by decide)⟩
    have y3 := c8_b ⟨u / 256 / 256 / 256 % 256, Nat.mod_lt _ (by decide)⟩
    dsimp only at y0 y1 y2 y3
    rw [y0, y1, y2, y3, cNt_8 24 u, cNt_8 16 (u / 256), cNt_8 8 (u / 256 / 256), Nat.mod_eq_of_lt (show u / 256 / 256 / 256 < 256 by omega)]
  refine ⟨_, _, _, t1, by rw [m1, s1]; omega, by omega, t2, by omega, t3, by omega, ?_, ?_, ?_⟩
  · rw [x3]; omega
  · rw [x3]; omega
  · rw [and_63, x9, x3]
    generalize c8 (u % 256) = a at *
    generalize c8 (u / 256 % 256) = b at *
    generalize c8 (u / 256 / 256 % 256) = c at *
    generalize c8 (u / 256 / 256 / 256 % 256) = e at *
    clear x9 x3 x2 t3 t2 t1 s3 s2 s1 e2 e3 g16 g256 m1 m2 m3
    have z1 : (a + 256 * (b + 256 * (c + 256 * (e + 256 * 0)))) / 256 = b + 256 * c + 65536 * e := by omega
    rw [z1]
    have z2 : (a + 256 * (b + 256 * (c + 256 * (e + 256 * 0))) + (b + 256 * c + 65536 * e)) / 65536 = c + e + 256 * e := by omega
    rw [z2]
    omega
