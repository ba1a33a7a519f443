/-! THE PURE MACHINE, 2: one step, a run. -/
abbrev ab_Y : Type := (Nat × ab_Lo × List Value × List va_E) ⊕ ((Nat × List Value × List Value) ⊕ Option Value)
def ab_n (pc : Nat) (L : ab_Lo) (st : List Value) (h : List va_E) : Option ab_Y := some (.inl (pc, L, st, h))
def ab_cd (c : Jvm.ClassFile.Cond) (x y : Int32) : Bool := match c with
  | .eq => decide (x = y)
  | .ne => !decide (x = y)
  | .lt => decide (x < y)
  | .ge => decide (y ≤ x)
  | .gt => decide (y < x)
  | .le => decide (x ≤ y)
def ab_len (i : Instr) : Nat := match i with
  | .bipush _ | .iload _ | .lload _ | .aload _ | .istore _ | .lstore _ | .astore _ | .newarray _ | .ldc _ => 2
  | .sipush _ | .iinc _ _ | .goto _ | .ifCond _ _ | .if_icmp _ _ | .if_acmp _ _ | .ifnull _ | .ifnonnull _ | .getfield _ | .putfield _ | .new _ | .anewarray _ | .invokevirtual _ | .invokespecial _ | .invokestatic _ | .ldc2_w _ | .ldc_w _ | .getstatic _ | .checkcast _ | .instanceof _ => 3
  | _ => 1
def ab_l2 (i : Instr) (r : Nat) : Nat := match i with
  | .tableswitch _ _ _ _ => r
  | .lookupswitch _ _ => r
  | _ => ab_len i
/-- may the value go into a field, be an answer, of this type -/
def ab_f (ty : FieldType) (v : Value) : Bool := match ty, v with
  | .int, .int _ => true
  | .long, .long _ => true
  | .boolean, .int x => x == 0 || x == 1
  | .char, .int x => 0 ≤ x && x ≤ 65535
  | .byte, .int x => -128 ≤ x && x ≤ 127
  | .object _, .null => true
  | .object _, .ref _ => true
  | .object _, .retAddr _ => true
  | .array _, .null => true
  | .array _, .ref _ => true
  | _, _ => false
def ab_ix (i : Int32) (n : Nat) : Bool := decide (i < 0) || decide (n ≤ i.toNatClampNeg)
/-- what two references are compared by: a cell's place, or a constant's number; none is null -/
def ab_r (v : Value) : Option (Option (Nat ⊕ Nat)) := match v with
  | .null => some none
  | .ref a => some (some (.inl a))
  | .retAddr q => if q < tb_sn then some (some (.inr q)) else none
  | _ => none
/-- the static of Preconditions: null or not, by what stands behind the script -/
def ab_zs (X : Nat × (Nat → Int32)) : Value := if X.2 X.1 = 0 then .null else .retAddr 3000
/-- may so many be copied there -/
def ab_cy (ty : FieldType) (a0 a t0 t1 n0 n1 : Nat) (sp dp n : Int32) (st : List Value) : Bool := decide (a0 ≠ a) && decide (tb_at[t0]? = some ty) && decide (tb_at[t1]? = some ty) && decide (¬ sp < 0) && decide (¬ dp < 0) && decide (¬ n < 0) && decide (sp.toNatClampNeg + n.toNatClampNeg ≤ n0) && decide (dp.toNatClampNeg + n.toNatClampNeg ≤ n1) && decide ((st.map fun v => v.category).sum ≤ 2)
def ab_w (o : Option Nat) : Value := match o with
  | none => .null
  | some a => .ref a

/-- an array of references to objects of a class -/
def ab_ro (t : Nat) : Bool := match tb_at[t]? with
  | some (.object _) => true
  | _ => false
def ab_x (X : Nat × (Nat → Int32)) (r pc : Nat) (i : Instr) (L : ab_Lo) (st : List Value) (h : List va_E) : Option ab_Y := match i with
  | .iconst n => ab_n (pc + 1) L (.int (Int32.ofInt n) :: st) h
  | .bipush n => ab_n (pc + 2) L (.int (Int8.ofInt n).toInt32 :: st) h
  | .sipush n => ab_n (pc + 3) L (.int (Int16.ofInt n).toInt32 :: st) h
  | .lconst n => ab_n (pc + 1) L (.long (Int64.ofNat (n : Nat)) :: st) h
  | .aconst_null => ab_n (pc + 1) L (.null :: st) h
  | .getstatic _ => if r = 7777 then ab_n (pc + 3) L (ab_zs X :: st) h else (match tb_zv[r]? with | some q => ab_n (pc + 3) L (.int q.2.2.2 :: st) h | none => none)
  | .ldc _ => if 10000 ≤ r then ab_n (pc + 2) L (.retAddr (r - 10000) :: st) h else (match tb_ki[r]? with | some x => ab_n (pc + 2) L (.int x :: st) h | none => none)
  | .ldc_w _ => (match tb_ki[r]? with | some x => ab_n (pc + 3) L (.int x :: st) h | none => none)
  | .ldc2_w _ => (match tb_kl[r]? with | some x => ab_n (pc + 3) L (.long x :: st) h | none => none)
  | .iload k => (match L[k]? with | some (some (.int x)) => ab_n (pc + 2) L (.int x :: st) h | _ => none)
  | .iload_n k => (match L[(k : Nat)]? with | some (some (.int x)) => ab_n (pc + 1) L (.int x :: st) h | _ => none)
  | .lload k => (match L[k]? with | some (some (.long x)) => ab_n (pc + 2) L (.long x :: st) h | _ => none)
  | .lload_n k => (match L[(k : Nat)]? with | some (some (.long x)) => ab_n (pc + 1) L (.long x :: st) h | _ => none)
  | .aload k => (match L[k]? with | some (some (.ref x)) => ab_n (pc + 2) L (.ref x :: st) h | some (some .null) => ab_n (pc + 2) L (.null :: st) h | some (some (.retAddr x)) => ab_n (pc + 2) L (.retAddr x :: st) h | _ => none)
  | .aload_n k => (match L[(k : Nat)]? with | some (some (.ref x)) => ab_n (pc + 1) L (.ref x :: st) h | some (some .null) => ab_n (pc + 1) L (.null :: st) h | some (some (.retAddr x)) => ab_n (pc + 1) L (.retAddr x :: st) h | _ => none)
  | .istore k => (match st with | .int x :: st' => if k < L.length then ab_n (pc + 2) (ab_s1 L k (.int x)) st' h else none | _ => none)
  | .lstore k => (match st with | .long x :: st' => if k + 1 < L.length then ab_n (pc + 2) (ab_s2 L k (.long x)) st' h else none | _ => none)
  | .astore k => (match st with | .ref x :: st' => if k < L.length then ab_n (pc + 2) (ab_s1 L k (.ref x)) st' h else none | .null :: st' => if k < L.length then ab_n (pc + 2) (ab_s1 L k .null) st' h else none | .retAddr x :: st' => if k < L.length then ab_n (pc + 2) (ab_s1 L k (.retAddr x)) st' h else none | _ => none)
  | .istore_n k => (match st with | .int x :: st' => if (k : Nat) < L.length then ab_n (pc + 1) (ab_s1 L (k : Nat) (.int x)) st' h else none | _ => none)
  | .lstore_n k => (match st with | .long x :: st' => if (k : Nat) + 1 < L.length then ab_n (pc + 1) (ab_s2 L (k : Nat) (.long x)) st' h else none | _ => none)
  | .astore_n k => (match st with | .ref x :: st' => if (k : Nat) < L.length then ab_n (pc + 1) (ab_s1 L (k : Nat) (.ref x)) st' h else none | .null :: st' => if (k : Nat) < L.length then ab_n (pc + 1) (ab_s1 L (k : Nat) .null) st' h else none | .retAddr x :: st' => if (k : Nat) < L.length then ab_n (pc + 1) (ab_s1 L (k : Nat) (.retAddr x)) st' h else none | _ => none)
  | .iinc k n => (match L[k]? with | some (some (.int x)) => ab_n (pc + 3) (ab_s1 L k (.int (x + Int32.ofInt n))) st h | _ => none)
  | .iadd => (match st with | .int y :: .int x :: st' => ab_n (pc + 1) L (.int (x + y) :: st') h | _ => none)
  | .isub => (match st with | .int y :: .int x :: st' => ab_n (pc + 1) L (.int (x - y) :: st') h | _ => none)
  | .imul => (match st with | .int y :: .int x :: st' => ab_n (pc + 1) L (.int (x * y) :: st') h | _ => none)
  | .iand => (match st with | .int y :: .int x :: st' => ab_n (pc + 1) L (.int (x &&& y) :: st') h | _ => none)
  | .ior => (match st with | .int y :: .int x :: st' => ab_n (pc + 1) L (.int (x ||| y) :: st') h | _ => none)
  | .ixor => (match st with | .int y :: .int x :: st' => ab_n (pc + 1) L (.int (x ^^^ y) :: st') h | _ => none)
  | .ishl => (match st with | .int y :: .int x :: st' => ab_n (pc + 1) L (.int (x <<< (y &&& 31)) :: st') h | _ => none)
  | .ishr => (match st with | .int y :: .int x :: st' => ab_n (pc + 1) L (.int (x >>> (y &&& 31)) :: st') h | _ => none)
  | .idiv => (match st with | .int y :: .int x :: st' => if ¬ y = 0 then ab_n (pc + 1) L (.int (x / y) :: st') h else none | _ => none)
  | .irem => (match st with | .int y :: .int x :: st' => if ¬ y = 0 then ab_n (pc + 1) L (.int (x - x / y * y) :: st') h else none | _ => none)
  | .iushr => (match st with | .int y :: .int x :: st' => ab_n (pc + 1) L (.int (x.toUInt32 >>> (y.toUInt32 &&& Int32.toUInt32 31)).toInt32 :: st') h | _ => none)
  | .ineg => (match st with | .int x :: st' => ab_n (pc + 1) L (.int (-x) :: st') h | _ => none)
  | .ladd => (match st with | .long y :: .long x :: st' => ab_n (pc + 1) L (.long (x + y) :: st') h | _ => none)
  | .lsub => (match st with | .long y :: .long x :: st' => ab_n (pc + 1) L (.long (x - y) :: st') h | _ => none)
  | .lmul => (match st with | .long y :: .long x :: st' => ab_n (pc + 1) L (.long (x * y) :: st') h | _ => none)
  | .land => (match st with | .long y :: .long x :: st' => ab_n (pc + 1) L (.long (x &&& y) :: st') h | _ => none)
  | .lor => (match st with | .long y :: .long x :: st' => ab_n (pc + 1) L (.long (x ||| y) :: st') h | _ => none)
  | .lxor => (match st with | .long y :: .long x :: st' => ab_n (pc + 1) L (.long (x ^^^ y) :: st') h | _ => none)
  | .ldiv => (match st with | .long y :: .long x :: st' => if ¬ y = 0 then ab_n (pc + 1) L (.long (x / y) :: st') h else none | _ => none)
  | .lrem => (match st with | .long y :: .long x :: st' => if ¬ y = 0 then ab_n (pc + 1) L (.long (x - x / y * y) :: st') h else none | _ => none)
  | .lneg => (match st with | .long x :: st' => ab_n (pc + 1) L (.long (-x) :: st') h | _ => none)
  | .lshl => (match st with | .int y :: .long x :: st' => ab_n (pc + 1) L (.long (x <<< (y.toInt64 &&& 63)) :: st') h | _ => none)
  | .lshr => (match st with | .int y :: .long x :: st' => ab_n (pc + 1) L (.long (x >>> (y.toInt64 &&& 63)) :: st') h | _ => none)
  | .lushr => (match st with | .int y :: .long x :: st' => ab_n (pc + 1) L (.long (x.toUInt64 >>> (y.toInt64.toUInt64 &&& Int64.toUInt64 63)).toInt64 :: st') h | _ => none)
  | .i2l => (match st with | .int x :: st' => ab_n (pc + 1) L (.long x.toInt64 :: st') h | _ => none)
  | .l2i => (match st with | .long x :: st' => ab_n (pc + 1) L (.int x.toInt32 :: st') h | _ => none)
  | .i2b => (match st with | .int x :: st' => ab_n (pc + 1) L (.int x.toInt8.toInt32 :: st') h | _ => none)
  | .i2s => (match st with | .int x :: st' => ab_n (pc + 1) L (.int x.toInt16.toInt32 :: st') h | _ => none)
  | .i2c => (match st with | .int x :: st' => ab_n (pc + 1) L (.int (x.toUInt32 % 65536).toInt32 :: st') h | _ => none)
  | .lcmp => (match st with | .long y :: .long x :: st' => ab_n (pc + 1) L (.int (lg_cmp x y) :: st') h | _ => none)
  | .dup => (match st with | va :: st' => if va.category = 1 then ab_n (pc + 1) L (va :: va :: st') h else none | _ => none)
  | .pop => (match st with | va :: st' => if va.category = 1 then ab_n (pc + 1) L st' h else none | _ => none)
  | .dup_x1 => (match st with | va :: vb :: st' => if va.category = 1 ∧ vb.category = 1 then ab_n (pc + 1) L (va :: vb :: va :: st') h else none | _ => none)
  | .dup_x2 => (match st with | va :: vb :: vd :: st' => if va.category = 1 ∧ vb.category = 1 ∧ vd.category = 1 then ab_n (pc + 1) L (va :: vb :: vd :: va :: st') h else none | _ => none)
  | .dup2 => (match st with | va :: vb :: st' => if va.category = 1 ∧ vb.category = 1 then ab_n (pc + 1) L (va :: vb :: va :: vb :: st') h else if va.category = 2 then ab_n (pc + 1) L (va :: va :: vb :: st') h else none | _ => none)
  | .goto _ => ab_n r L st h
  | .tableswitch dflt lo hi offs => (match st with | .int x :: st' => if x.toInt < lo ∨ hi < x.toInt then (if 0 ≤ (pc : Int) + dflt then ab_n ((pc : Int) + dflt).toNat L st' h else none) else (match offs[(x.toInt - lo).toNat]? with | some off => if 0 ≤ (pc : Int) + off then ab_n ((pc : Int) + off).toNat L st' h else none | none => none) | _ => none)
  | .lookupswitch dflt ps => (match st with | .int x :: st' => if (ps.toList.zip (ps.toList.drop 1)).all (fun (a, next) => a.1 < next.1) = true ∧ 0 ≤ (pc : Int) + Op.lookupswitch.offset ps.toList dflt x.toInt then ab_n ((pc : Int) + Op.lookupswitch.offset ps.toList dflt x.toInt).toNat L st' h else none | _ => none)
  | .ifCond c _ => (match st with | .int x :: st' => if ab_cd c x 0 = true then ab_n r L st' h else ab_n (pc + 3) L st' h | _ => none)
  | .if_icmp c _ => (match st with | .int y :: .int x :: st' => if ab_cd c x y = true then ab_n r L st' h else ab_n (pc + 3) L st' h | _ => none)
  | .ifnull _ => (match st with | .null :: st' => ab_n r L st' h | .ref _ :: st' => ab_n (pc + 3) L st' h | _ => none)
  | .ifnonnull _ => (match st with | .null :: st' => ab_n (pc + 3) L st' h | .ref _ :: st' => ab_n r L st' h | _ => none)
  | .if_acmp c _ => (match st with | v :: w :: st' => (match ab_r v, ab_r w with | some y, some x => if (x = y ∧ c = .eq) ∨ (¬ x = y ∧ c = .ne) then ab_n r L st' h else ab_n (pc + 3) L st' h | _, _ => none) | _ => none)
  | .getfield _ => (match st with | .ref a :: st' => (match h[a]? with | some (.inr (ci, fs)) => if ci = r / 64 then (match fs[r % 64]? with | some v => ab_n (pc + 3) L (v :: st') h | none => none) else none | _ => none) | .retAddr q :: st' => if q < tb_sn ∧ r = tb_str * 64 then ab_n (pc + 3) L (.retAddr (2000 + q) :: st') h else if q < tb_sn ∧ r = tb_str * 64 + 1 then ab_n (pc + 3) L (.int 0 :: st') h else none | _ => none)
  | .putfield _ => (match st with | v :: .ref a :: st' => (match h[a]? with | some (.inr (ci, fs)) => if ci = r / 64 ∧ r % 64 < fs.length ∧ ab_f (tb_ft (r / 64) (r % 64)) v = true then ab_n (pc + 3) L st' (h.set a (.inr (ci, fs.set (r % 64) v))) else none | _ => none) | _ => none)
  | .iaload => (match st with | .int i :: .ref a :: st' => (match h[a]? with | some (.inl (t, n, .inl f)) => if tb_at[t]? = some .int ∧ ab_ix i n = false then ab_n (pc + 1) L (.int (f i.toNatClampNeg) :: st') h else none | _ => none) | .int i :: .retAddr q :: st' => if q = 1000 ∧ ab_ix i X.1 = false then ab_n (pc + 1) L (.int (X.2 i.toNatClampNeg) :: st') h else none | _ => none)
  | .caload => (match st with | .int i :: .ref a :: st' => (match h[a]? with | some (.inl (t, n, .inl f)) => if tb_at[t]? = some .char ∧ ab_ix i n = false then ab_n (pc + 1) L (.int (f i.toNatClampNeg) :: st') h else none | _ => none) | _ => none)
  | .laload => (match st with | .int i :: .ref a :: st' => (match h[a]? with | some (.inl (t, n, .inr (.inl f))) => if tb_at[t]? = some .long ∧ ab_ix i n = false then ab_n (pc + 1) L (.long (f i.toNatClampNeg) :: st') h else none | _ => none) | _ => none)
  | .baload => (match st with | .int i :: .ref a :: st' => (match h[a]? with | some (.inl (t, n, .inl f)) => if tb_at[t]? = some .boolean ∧ ab_ix i n = false then ab_n (pc + 1) L (.int (f i.toNatClampNeg) :: st') h else if tb_at[t]? = some .byte ∧ ab_ix i n = false then ab_n (pc + 1) L (.int (f i.toNatClampNeg) :: st') h else none | _ => none) | .int i :: .retAddr q :: st' => if (2000 ≤ q ∧ q - 2000 < tb_sn) ∧ ab_ix i (tb_sl.getD (q - 2000) 0) = false then ab_n (pc + 1) L (.int ((tb_sb.getD (q - 2000) []).getD i.toNatClampNeg 0) :: st') h else none | _ => none)
  | .aaload => (match st with | .int i :: .ref a :: st' => (match h[a]? with | some (.inl (t, n, .inr (.inr (.inr (.inr f))))) => if ab_ro t = true ∧ ab_ix i n = false then ab_n (pc + 1) L (ab_w (f i.toNatClampNeg) :: st') h else none | _ => none) | _ => none)
  | .iastore => (match st with | .int x :: .int i :: .ref a :: st' => (match h[a]? with | some (.inl (t, n, .inl f)) => if tb_at[t]? = some .int ∧ ab_ix i n = false then ab_n (pc + 1) L st' (h.set a (.inl (t, n, .inl (upd f i.toNatClampNeg x)))) else none | _ => none) | _ => none)
  | .castore => (match st with | .int x :: .int i :: .ref a :: st' => (match h[a]? with | some (.inl (t, n, .inl f)) => if tb_at[t]? = some .char ∧ ab_ix i n = false then ab_n (pc + 1) L st' (h.set a (.inl (t, n, .inl (upd f i.toNatClampNeg (vp_nar .char x))))) else none | _ => none) | _ => none)
  | .bastore => (match st with | .int x :: .int i :: .ref a :: st' => (match h[a]? with | some (.inl (t, n, .inl f)) => if tb_at[t]? = some .boolean ∧ ab_ix i n = false then ab_n (pc + 1) L st' (h.set a (.inl (t, n, .inl (upd f i.toNatClampNeg (vp_nar .boolean x))))) else if tb_at[t]? = some .byte ∧ ab_ix i n = false then ab_n (pc + 1) L st' (h.set a (.inl (t, n, .inl (upd f i.toNatClampNeg (vp_nar .byte x))))) else none | _ => none) | _ => none)
  | .lastore => (match st with | .long x :: .int i :: .ref a :: st' => (match h[a]? with | some (.inl (t, n, .inr (.inl f))) => if tb_at[t]? = some .long ∧ ab_ix i n = false then ab_n (pc + 1) L st' (h.set a (.inl (t, n, .inr (.inl (vp_updL f i.toNatClampNeg x))))) else none | _ => none) | _ => none)
  | .aastore => (match st with | .ref v :: .int i :: .ref a :: st' => (match h[a]?, h[v]? with | some (.inl (t, n, .inr (.inr (.inr (.inr f))))), some (.inr (ci, _)) => if tb_at[t]? = (tb_cl[ci]?).map (fun q => FieldType.object q.1) ∧ ab_ro t = true ∧ ab_ix i n = false then ab_n (pc + 1) L st' (h.set a (.inl (t, n, .inr (.inr (.inr (.inr (va_up f i.toNatClampNeg (some v)))))))) else none | _, _ => none) | .null :: .int i :: .ref a :: st' => (match h[a]? with | some (.inl (t, n, .inr (.inr (.inr (.inr f))))) => if ab_ro t = true ∧ ab_ix i n = false then ab_n (pc + 1) L st' (h.set a (.inl (t, n, .inr (.inr (.inr (.inr (va_up f i.toNatClampNeg none))))))) else none | _ => none) | _ => none)
  | .arraylength => (match st with | .ref a :: st' => (match h[a]? with | some (.inl (t, n, _)) => if t < tb_at.length then ab_n (pc + 1) L (.int (Int32.ofNat n) :: st') h else none | _ => none) | .retAddr q :: st' => if q = 1000 then ab_n (pc + 1) L (.int (Int32.ofNat X.1) :: st') h else if 2000 ≤ q ∧ q - 2000 < tb_sn then ab_n (pc + 1) L (.int (Int32.ofNat (tb_sl.getD (q - 2000) 0)) :: st') h else none | _ => none)
  | .newarray ty => (match st with | .int n :: st' => if n < 0 ∨ 1000000 < n.toNatClampNeg then none else (match ty with | .int => if tb_at[r]? = some .int then ab_n (pc + 2) L (.ref h.length :: st') (h ++ [.inl (r, n.toNatClampNeg, .inl (fun _ => 0))]) else none | .char => if tb_at[r]? = some .char then ab_n (pc + 2) L (.ref h.length :: st') (h ++ [.inl (r, n.toNatClampNeg, .inl (fun _ => 0))]) else none | .boolean => if tb_at[r]? = some .boolean then ab_n (pc + 2) L (.ref h.length :: st') (h ++ [.inl (r, n.toNatClampNeg, .inl (fun _ => 0))]) else none | .byte => if tb_at[r]? = some .byte then ab_n (pc + 2) L (.ref h.length :: st') (h ++ [.inl (r, n.toNatClampNeg, .inl (fun _ => 0))]) else none | .long => if tb_at[r]? = some .long then ab_n (pc + 2) L (.ref h.length :: st') (h ++ [.inl (r, n.toNatClampNeg, .inr (.inl (fun _ => 0)))]) else none | _ => none) | _ => none)
  | .anewarray _ => (match st with | .int n :: st' => if n < 0 ∨ 1000000 < n.toNatClampNeg then none else if ab_ro r = true then ab_n (pc + 3) L (.ref h.length :: st') (h ++ [.inl (r, n.toNatClampNeg, .inr (.inr (.inr (.inr (fun _ => none)))))]) else none | _ => none)
  | .new _ => (match tb_cl[r]? with | some _ => ab_n (pc + 3) L (.ref h.length :: st) (h ++ [.inr (r, (List.range (tb_nf r)).map (fun k => defaultValue (tb_ft r k)))]) | none => none)
  | .invokevirtual _ => if r = 8888 ∨ tb_st r = true then none else (match st.drop (tb_np r) with | .ref a :: st' => (match h[a]? with | some (.inr (ci, _)) => if ci = tb_oc r then some (.inr (.inl (r, .ref a :: (st.take (tb_np r)).reverse, st'))) else none | _ => none) | .retAddr a :: st' => if a < tb_sn ∧ tb_oc r = tb_str then some (.inr (.inl (r, .retAddr a :: (st.take (tb_np r)).reverse, st'))) else none | _ => none)
  | .invokespecial _ => if r = 9999 then (match st with | .ref _ :: st' => if (st'.map fun v => v.category).sum ≤ 8 then ab_n (pc + 3) L st' h else none | _ => none) else if r = 8888 ∨ tb_st r = true then none else (match st.drop (tb_np r) with | .ref a :: st' => some (.inr (.inl (r, .ref a :: (st.take (tb_np r)).reverse, st'))) | _ => none)
  | .checkcast _ => if r = 8888 then none else (match st with | .ref a :: st' => (match h[a]? with | some (.inr (ci, _)) => if ci = r then ab_n (pc + 3) L (.ref a :: st') h else none | _ => none) | .retAddr q :: st' => if q < tb_sn ∧ r = tb_str then ab_n (pc + 3) L (.retAddr q :: st') h else none | _ => none)
  | .instanceof _ => if r = 8888 then none else (match st with | .ref a :: st' => (match h[a]? with | some (.inr (ci, _)) => if ci = r then ab_n (pc + 3) L (.int 1 :: st') h else none | _ => none) | .retAddr q :: st' => if q < tb_sn ∧ r = tb_str then ab_n (pc + 3) L (.int 1 :: st') h else none | _ => none)
  | .invokestatic _ => if r = 6666 then (match st with | .int n :: .int dp :: .ref a :: .int sp :: .ref a0 :: st' => (match h[a0]?, h[a]? with | some (.inl (t0, n0, .inl f)), some (.inl (t1, n1, .inl g)) => if ab_cy .byte a0 a t0 t1 n0 n1 sp dp n st' = true ∧ (∀ i, i < n.toNatClampNeg → ab_f .byte (.int (f (sp.toNatClampNeg + i))) = true) then ab_n (pc + 3) L st' (h.set a (.inl (t1, n1, .inl (va_cpy f g sp.toNatClampNeg dp.toNatClampNeg n.toNatClampNeg)))) else none | some (.inl (t0, n0, .inr (.inl f))), some (.inl (t1, n1, .inr (.inl g))) => if ab_cy .long a0 a t0 t1 n0 n1 sp dp n st' = true then ab_n (pc + 3) L st' (h.set a (.inl (t1, n1, .inr (.inl (va_cpy f g sp.toNatClampNeg dp.toNatClampNeg n.toNatClampNeg))))) else none | _, _ => none) | _ => none) else if r = 5555 then (match st with | .int y :: .int x :: st' => if (st'.map fun v => v.category).sum ≤ 6 then ab_n (pc + 3) L (.int (if y < x then y else x) :: st') h else none | _ => none) else if r ≠ 8888 ∧ tb_st r = true ∧ tb_np r ≤ st.length then some (.inr (.inl (r, (st.take (tb_np r)).reverse, st.drop (tb_np r)))) else none
  | .ireturn => (match st with | [.int x] => some (.inr (.inr (some (.int x)))) | _ => none)
  | .lreturn => (match st with | [.long x] => some (.inr (.inr (some (.long x)))) | _ => none)
  | .areturn => (match st with | [.ref x] => some (.inr (.inr (some (.ref x)))) | [.null] => some (.inr (.inr (some .null))) | [.retAddr x] => some (.inr (.inr (some (.retAddr x)))) | _ => none)
  | .return_ => (match st with | [] => some (.inr (.inr none)) | _ => none)
  | _ => none
/-- the row of an instruction -/
def ab_k : List (Nat × Instr × Nat) → Nat → Option (Instr × Nat)
  | [], _ => none
  | q :: l, pc => match Nat.beq q.1 pc with
    | true => some q.2
    | false => ab_k l pc
def ab_s (X : Nat × (Nat → Int32)) (M pc : Nat) (L : ab_Lo) (st : List Value) (h : List va_E) : Option ab_Y := match ab_k (tb_il M) pc with
  | some (i, r) => ab_x X r pc i L st h
  | none => none
/-- the words that lie below a call, and the callee's own locals, are few enough -/
def ab_cok (M : Nat) (as rest : List Value) : Bool := decide ((rest.map fun v => v.category).sum ≤ 8) && decide ((ab_en as).length ≤ tb_max M)
/-- the answer is of the method's type -/
def ab_rt (M : Nat) (v : Option Value) : Bool := match tb_ret M, v with
  | none, none => true
  | some ty, some v => ab_f ty v
  | _, _ => false
def ab_g (X : Nat × (Nat → Int32)) : Nat → Nat → Nat → Nat → ab_Lo → List Value → List va_E → Option (Option Value × List va_E)
  | 0, _, _, _, _, _, _ => none
  | n + 1, d, M, pc, L, st, h => match ab_s X M pc L st h with
    | none => none
    | some (.inl (pc', L', st', h')) => ab_g X n d M pc' L' st' h'
    | some (.inr (.inl (M', as, rest))) => match d with
      | 0 => none
      | d' + 1 => if ab_cok M' as rest = true then (match ab_g X n d' M' 0 (ab_en as ++ List.replicate (tb_max M' - (ab_en as).length) none) [] h with
        | none => none
        | some (v, h') => ab_g X n (d' + 1) M (pc + 3) L (v.toList ++ rest) h') else none
    | some (.inr (.inr v)) => if ab_rt M v = true then some (v, h) else none
