/-! THE PURE MACHINE, 4: steps that touch the heap. -/
def ab_ty (dA : Nat → ClassId) : List (ClassId × FieldType) := tb_at.mapIdx (fun t ty => (dA t, ty))
theorem ab_ty_at {dA : Nat → ClassId} {t : Nat} {ty : FieldType} (h : tb_at[t]? = some ty) : (ab_ty dA)[t]? = some (dA t, ty) := by
  unfold ab_ty
  rw [List.getElem?_mapIdx, h]
  rfl
theorem ab_ix_in {i : Int32} {n : Nat} (h : ab_ix i n = false) : vp_in i n := by
  unfold ab_ix at h
  simp only [Bool.or_eq_false_iff, decide_eq_false_iff_not] at h
  exact fun q => q.elim h.1 h.2
section AB4
variable {p : Program} {l : Launch} {e : Env} {R : Room} {s : State} {m : MethodId} {args : Array Value} {below : List Frame} {meth : Method} {c : Code} {b : Nat} {sa : Nat → Nat} {D : va_G} {dA : Nat → ClassId} {nL n0 z0 : Nat} {Q : State → Prop} {cc : ByteArray} {pc : Nat} {L : ab_Lo} {st : List Value} {h : List va_E} {X : Nat × (Nat → Int32)}
theorem so_iald (hx : p.tables.exec = Jvm.exec) (hb : c.code = cc) (hK : va_K D tb_cl (ab_ty dA) s) {a t n : Nat} {f : Nat → Int32} {i : Int32} (hd : decode cc pc = .ok (.iaload, 1)) (ha : h[a]? = some (.inl (t, n, .inl f))) (ht : tb_at[t]? = some .int) (hin : ab_ix i n = false) (k : ab_J p l e R s m args below meth c b sa D dA nL n0 z0 Q (pc + 1) (L) (.int (f i.toNatClampNeg) :: st) (h)) : ab_J p l e R s m args below meth c b sa D dA nL n0 z0 Q (pc) (L) (.int i :: .ref a :: st) (h) := fun H locs ls a1 a2 a3 a4 a5 a6 => va_iald (ws := [(b + a, .inl (dA t, n, .inl f))]) hx hb hK (ab_P.one a1 ha) 0 t rfl (ab_ty_at ht) (ab_ix_in hin) hd (k H locs ls a1 a2 a3 a4 a5 a6)
theorem so_cald (hx : p.tables.exec = Jvm.exec) (hb : c.code = cc) (hK : va_K D tb_cl (ab_ty dA) s) {a t n : Nat} {f : Nat → Int32} {i : Int32} (hd : decode cc pc = .ok (.caload, 1)) (ha : h[a]? = some (.inl (t, n, .inl f))) (ht : tb_at[t]? = some .char) (hin : ab_ix i n = false) (k : ab_J p l e R s m args below meth c b sa D dA nL n0 z0 Q (pc + 1) (L) (.int (f i.toNatClampNeg) :: st) (h)) : ab_J p l e R s m args below meth c b sa D dA nL n0 z0 Q (pc) (L) (.int i :: .ref a :: st) (h) := fun H locs ls a1 a2 a3 a4 a5 a6 => va_cald (ws := [(b + a, .inl (dA t, n, .inl f))]) hx hb hK (ab_P.one a1 ha) 0 t rfl (ab_ty_at ht) (ab_ix_in hin) hd (k H locs ls a1 a2 a3 a4 a5 a6)
theorem so_zald (hx : p.tables.exec = Jvm.exec) (hb : c.code = cc) (hK : va_K D tb_cl (ab_ty dA) s) {a t n : Nat} {f : Nat → Int32} {i : Int32} (hd : decode cc pc = .ok (.baload, 1)) (ha : h[a]? = some (.inl (t, n, .inl f))) (ht : tb_at[t]? = some .boolean) (hin : ab_ix i n = false) (k : ab_J p l e R s m args below meth c b sa D dA nL n0 z0 Q (pc + 1) (L) (.int (f i.toNatClampNeg) :: st) (h)) : ab_J p l e R s m args below meth c b sa D dA nL n0 z0 Q (pc) (L) (.int i :: .ref a :: st) (h) := fun H locs ls a1 a2 a3 a4 a5 a6 => va_zald (ws := [(b + a, .inl (dA t, n, .inl f))]) hx hb hK (ab_P.one a1 ha) 0 t rfl (ab_ty_at ht) (ab_ix_in hin) hd (k H locs ls a1 a2 a3 a4 a5 a6)
theorem so_bald (hx : p.tables.exec = Jvm.exec) (hb : c.code = cc) (hK : va_K D tb_cl (ab_ty dA) s) {a t n : Nat} {f : Nat → Int32} {i : Int32} (hd : decode cc pc = .ok (.baload, 1)) (ha : h[a]? = some (.inl (t, n, .inl f))) (ht : tb_at[t]? = some .byte) (hin : ab_ix i n = false) (k : ab_J p l e R s m args below meth c b sa D dA nL n0 z0 Q (pc + 1) (L) (.int (f i.toNatClampNeg) :: st) (h)) : ab_J p l e R s m args below meth c b sa D dA nL n0 z0 Q (pc) (L) (.int i :: .ref a :: st) (h) := fun H locs ls a1 a2 a3 a4 a5 a6 => va_bald (ws := [(b + a, .inl (dA t, n, .inl f))]) hx hb hK (ab_P.one a1 ha) 0 t rfl (ab_ty_at ht) (ab_ix_in hin) hd (k H locs ls a1 a2 a3 a4 a5 a6)
theorem so_lald (hx : p.tables.exec = Jvm.exec) (hb : c.code = cc) (hK : va_K D tb_cl (ab_ty dA) s) {a t n : Nat} {f : Nat → Int64} {i : Int32} (hd : decode cc pc = .ok (.laload, 1)) (ha : h[a]? = some (.inl (t, n, .inr (.inl f)))) (ht : tb_at[t]? = some .long) (hin : ab_ix i n = false) (k : ab_J p l e R s m args below meth c b sa D dA nL n0 z0 Q (pc + 1) (L) (.long (f i.toNatClampNeg) :: st) (h)) : ab_J p l e R s m args below meth c b sa D dA nL n0 z0 Q (pc) (L) (.int i :: .ref a :: st) (h) := fun H locs ls a1 a2 a3 a4 a5 a6 => va_lald (ws := [(b + a, .inl (dA t, n, .inr (.inl f)))]) hx hb hK (ab_P.one a1 ha) 0 t rfl (ab_ty_at ht) (ab_ix_in hin) hd (k H locs ls a1 a2 a3 a4 a5 a6)
/-- the string constants, the statics, what ldc gives of texts -/
def ab_S (X : Nat × (Nat → Int32)) (b : Nat) (sa : Nat → Nat) (U : State) (H : Heap) : Prop := vk_S tb_sn tb_sl tb_sb sa (fun i => sa (2000 + i)) (fun q => b ≤ q) U H ∧ (∀ q ∈ tb_zv, va_Z (tb_cn q.1) q.2.1 q.2.2.1 (.int q.2.2.2) (fun z => b ≤ z) U H) ∧ (∀ q ∈ tb_sr, vk_R (tb_cn q.1) q.2.1 (tb_sx.getD q.2.2 "") (sa q.2.2) U) ∧ va_Z "jdk/internal/util/Preconditions" "SIOOBE_FORMATTER" "Ljava/util/function/BiFunction;" (ab_v b sa (ab_zs X)) (fun z => b ≤ z) U H
theorem so_strV (hx : p.tables.exec = Jvm.exec) (hb : c.code = cc) (hS9 : ab_S X b sa s s.heap) {own : String} {idx q : Nat} (hown : s.vm.findClass own = some m.cls) (hd : decode cc pc = .ok (.getfield idx, 3)) (hq : q < tb_sn) (hlink : (Jvm.Cond.fieldLink own idx "java/lang/String" "value" "[B").before args s = true) (k : ab_J p l e R s m args below meth c b sa D dA nL n0 z0 Q (pc + 3) (L) (.retAddr (2000 + q) :: st) (h)) : ab_J p l e R s m args below meth c b sa D dA nL n0 z0 Q (pc) (L) (.retAddr q :: st) (h) := fun H locs ls a1 a2 a3 a4 a5 a6 => vk_getf hx hb (hS9.1.1 q hq).2.2.1 a2 hown hlink (fun _ z => z) hd (k H locs ls a1 a2 a3 a4 a5 a6)
theorem so_strC (hx : p.tables.exec = Jvm.exec) (hb : c.code = cc) (hS9 : ab_S X b sa s s.heap) {own : String} {idx q : Nat} (hown : s.vm.findClass own = some m.cls) (hd : decode cc pc = .ok (.getfield idx, 3)) (hq : q < tb_sn) (hlink : (Jvm.Cond.fieldLink own idx "java/lang/String" "coder" "B").before args s = true) (k : ab_J p l e R s m args below meth c b sa D dA nL n0 z0 Q (pc + 3) (L) (.int 0 :: st) (h)) : ab_J p l e R s m args below meth c b sa D dA nL n0 z0 Q (pc) (L) (.retAddr q :: st) (h) := fun H locs ls a1 a2 a3 a4 a5 a6 => vk_getf hx hb (hS9.1.1 q hq).2.1 a2 hown hlink (fun _ z => z) hd (k H locs ls a1 a2 a3 a4 a5 a6)
theorem so_strL (hx : p.tables.exec = Jvm.exec) (hb : c.code = cc) (hS9 : ab_S X b sa s s.heap) {q : Nat} (hd : decode cc pc = .ok (.arraylength, 1)) (hq : 2000 ≤ q ∧ q - 2000 < tb_sn) (k : ab_J p l e R s m args below meth c b sa D dA nL n0 z0 Q (pc + 1) (L) (.int (Int32.ofNat (tb_sl.getD (q - 2000) 0)) :: st) (h)) : ab_J p l e R s m args below meth c b sa D dA nL n0 z0 Q (pc) (L) (.retAddr q :: st) (h) := by
  intro H locs ls a1 a2 a3 a4 a5 a6
  have h9 := (hS9.1.1 (q - 2000) hq.2).2.2.2
  dsimp only at h9
  rw [show 2000 + (q - 2000) = q by omega] at h9
  exact va_tlen hx hb h9 a2 rfl hd (k H locs ls a1 a2 a3 a4 a5 a6)
theorem so_strB (hx : p.tables.exec = Jvm.exec) (hb : c.code = cc) (hS9 : ab_S X b sa s s.heap) {q : Nat} {i : Int32} (hd : decode cc pc = .ok (.baload, 1)) (hq : 2000 ≤ q ∧ q - 2000 < tb_sn) (hin : ab_ix i (tb_sl.getD (q - 2000) 0) = false) (k : ab_J p l e R s m args below meth c b sa D dA nL n0 z0 Q (pc + 1) (L) (.int ((tb_sb.getD (q - 2000) []).getD i.toNatClampNeg 0) :: st) (h)) : ab_J p l e R s m args below meth c b sa D dA nL n0 z0 Q (pc) (L) (.int i :: .retAddr q :: st) (h) := by
  intro H locs ls a1 a2 a3 a4 a5 a6
  have h9 := (hS9.1.1 (q - 2000) hq.2).2.2.2
  dsimp only at h9
  rw [show 2000 + (q - 2000) = q by omega] at h9
  exact va_tb hx hb h9 a2 (ab_ix_in hin) rfl hd (k H locs ls a1 a2 a3 a4 a5 a6)
theorem so_gets (hx : p.tables.exec = Jvm.exec) (hb : c.code = cc) (hS9 : ab_S X b sa s s.heap) {own C n d : String} {idx : Nat} {v : Int32} (hown : s.vm.findClass own = some m.cls) (hd : decode cc pc = .ok (.getstatic idx, 3)) (hz : va_Z C n d (.int v) (fun q => b ≤ q) s s.heap) (hlink : (Jvm.Cond.fieldLink own idx C n d).before args s = true) (k : ab_J p l e R s m args below meth c b sa D dA nL n0 z0 Q (pc + 3) (L) (.int v :: st) (h)) : ab_J p l e R s m args below meth c b sa D dA nL n0 z0 Q (pc) (L) (st) (h) := fun H locs ls a1 a2 a3 a4 a5 a6 => va_gets hx hb hz a2 hown hlink (fun _ z => z) hd (k H locs ls a1 a2 a3 a4 a5 a6)
theorem so_ldcS (hx : p.tables.exec = Jvm.exec) (hb : c.code = cc) {own tx : String} {idx k9 : Nat} (hown : s.vm.findClass own = some m.cls) (hd : decode cc pc = .ok (.ldc idx, 2)) (hZ : vk_R own idx tx (sa k9) s) (k : ab_J p l e R s m args below meth c b sa D dA nL n0 z0 Q (pc + 2) (L) (.retAddr k9 :: st) (h)) : ab_J p l e R s m args below meth c b sa D dA nL n0 z0 Q (pc) (L) (st) (h) := fun H locs ls a1 a2 a3 a4 a5 a6 => va_ldcS hx hb hown hZ hd (k H locs ls a1 a2 a3 a4 a5 a6)
theorem so_sld (hx : p.tables.exec = Jvm.exec) (hb : c.code = cc) {X : Nat × (Nat → Int32)} (hX : va_X (sa 1000) X.1 X.2 s s.heap) (hX1 : sa 1000 < s.heap.size) (hX2 : ¬ b ≤ sa 1000) {i : Int32} (hd : decode cc pc = .ok (.iaload, 1)) (hin : ab_ix i X.1 = false) (k : ab_J p l e R s m args below meth c b sa D dA nL n0 z0 Q (pc + 1) (L) (.int (X.2 i.toNatClampNeg) :: st) (h)) : ab_J p l e R s m args below meth c b sa D dA nL n0 z0 Q (pc) (L) (.int i :: .retAddr 1000 :: st) (h) := fun H locs ls a1 a2 a3 a4 a5 a6 => va_sld hx hb hX hX1 hX2 a2 (ab_ix_in hin) hd (k H locs ls a1 a2 a3 a4 a5 a6)
theorem so_slen (hx : p.tables.exec = Jvm.exec) (hb : c.code = cc) {X : Nat × (Nat → Int32)} (hX : va_X (sa 1000) X.1 X.2 s s.heap) (hX1 : sa 1000 < s.heap.size) (hX2 : ¬ b ≤ sa 1000) (hd : decode cc pc = .ok (.arraylength, 1)) (k : ab_J p l e R s m args below meth c b sa D dA nL n0 z0 Q (pc + 1) (L) (.int (Int32.ofNat X.1) :: st) (h)) : ab_J p l e R s m args below meth c b sa D dA nL n0 z0 Q (pc) (L) (.retAddr 1000 :: st) (h) := fun H locs ls a1 a2 a3 a4 a5 a6 => va_slen hx hb hX hX1 hX2 a2 hd (k H locs ls a1 a2 a3 a4 a5 a6)
theorem so_aald (hx : p.tables.exec = Jvm.exec) (hb : c.code = cc) (hK : va_K D tb_cl (ab_ty dA) s) {a t n : Nat} {C : String} {f : Nat → Option Nat} {i : Int32} (hd : decode cc pc = .ok (.aaload, 1)) (ha : h[a]? = some (.inl (t, n, .inr (.inr (.inr (.inr f)))))) (ht : tb_at[t]? = some (.object C)) (hin : ab_ix i n = false) (k : ab_J p l e R s m args below meth c b sa D dA nL n0 z0 Q (pc + 1) (L) (ab_w (f i.toNatClampNeg) :: st) (h)) : ab_J p l e R s m args below meth c b sa D dA nL n0 z0 Q (pc) (L) (.int i :: .ref a :: st) (h) := by
  intro H locs ls a1 a2 a3 a4 a5 a6
  refine va_aldq (ws := [(b + a, .inl (dA t, n, .inr (.inr (.inr (.inr (fun j => (f j).map (fun q => b + q)))))))]) hx hb hK (ab_P.one a1 ha) 0 t rfl (ab_ty_at ht) (ab_ix_in hin) hd ?_
  have k1 := (k H locs ls a1 a2 a3 a4 a5 a6)
  rw [List.map_cons, show ab_v b sa (ab_w (f i.toNatClampNeg)) = va_rf ((f i.toNatClampNeg).map (fun q => b + q)) from ab_v_w b sa _] at k1
  exact k1
theorem so_alen (hx : p.tables.exec = Jvm.exec) (hb : c.code = cc) (hK : va_K D tb_cl (ab_ty dA) s) {a t n : Nat} {x : ab_A} (hd : decode cc pc = .ok (.arraylength, 1)) (ha : h[a]? = some (.inl (t, n, x))) (ht : t < tb_at.length) (k : ab_J p l e R s m args below meth c b sa D dA nL n0 z0 Q (pc + 1) (L) (.int (Int32.ofNat n) :: st) (h)) : ab_J p l e R s m args below meth c b sa D dA nL n0 z0 Q (pc) (L) (.ref a :: st) (h) :=
  fun H locs ls a1 a2 a3 a4 a5 a6 => va_alen (ws := [(b + a, .inl (dA t, n, ab_a b x))]) hx hb hK (ab_P.one a1 ha) 0 t rfl (ab_ty_at (List.getElem?_eq_getElem ht)) rfl hd (k H locs ls a1 a2 a3 a4 a5 a6)
theorem so_iast (hx : p.tables.exec = Jvm.exec) (hb : c.code = cc) (hK : va_K D tb_cl (ab_ty dA) s) {a t n : Nat} {f : Nat → Int32} {i : Int32} {x : Int32} (hd : decode cc pc = .ok (.iastore, 1)) (ha : h[a]? = some (.inl (t, n, .inl f))) (ht : tb_at[t]? = some .int) (hin : ab_ix i n = false) (k : ab_J p l e R s m args below meth c b sa D dA nL n0 z0 Q (pc + 1) (L) (st) (h.set a (.inl (t, n, .inl (upd f i.toNatClampNeg x))))) : ab_J p l e R s m args below meth c b sa D dA nL n0 z0 Q (pc) (L) (.int x :: .int i :: .ref a :: st) (h) := by
  intro H locs ls a1 a2 a3 a4 a5 a6
  have hc : H[b + a]? = some (vp_cell (dA t) (n, .inl f)) := a1.2 a _ ha
  refine W.iast hx hb hc ((hK.2 t _ (ab_ty_at ht)).1 n (fun j => .int (f j))) (fun q => by cases q) (by show ¬ (i < 0 ∨ (arrV _ _ _).slots.size ≤ _); rw [arrV_size]; exact ab_ix_in hin) rfl rfl hd fun H1 e z oq => ?_
  have hset : ab_P b sa D dA tb_cl (h.set a (.inl (t, n, .inl (upd f i.toNatClampNeg x)))) H1 := by
    refine a1.set ha z oq ?_
    show H1[b + a]? = some (vp_cell (dA t) (n, .inl (upd f i.toNatClampNeg x)))
    rw [e]
    rw [vp_cell_i, vp_cell_i, arrV_store]
    congr 2
    funext q
    by_cases hq : q = i.toNatClampNeg
    · subst hq
      simp [updV, upd]
      try rfl
    · simp [updV, upd, hq]
  have hz9 : ab_sl tb_nf (h.set a (.inl (t, n, .inl (upd f i.toNatClampNeg x)))) = ab_sl tb_nf h := ab_sl_set _ _ _ _ _ ha rfl
  have k1 := k H1 _ ls hset (a2.put (k := i.toNatClampNeg) z oq (Nat.le_add_right b a)) a3 a4 (by rw [List.length_set]; exact a5) (by rw [hz9]; exact a6)
  rw [List.length_set, hz9] at k1
  exact k1
theorem so_cast (hx : p.tables.exec = Jvm.exec) (hb : c.code = cc) (hK : va_K D tb_cl (ab_ty dA) s) {a t n : Nat} {f : Nat → Int32} {i : Int32} {x : Int32} (hd : decode cc pc = .ok (.castore, 1)) (ha : h[a]? = some (.inl (t, n, .inl f))) (ht : tb_at[t]? = some .char) (hin : ab_ix i n = false) (k : ab_J p l e R s m args below meth c b sa D dA nL n0 z0 Q (pc + 1) (L) (st) (h.set a (.inl (t, n, .inl (upd f i.toNatClampNeg (vp_nar .char x)))))) : ab_J p l e R s m args below meth c b sa D dA nL n0 z0 Q (pc) (L) (.int x :: .int i :: .ref a :: st) (h) := by
  intro H locs ls a1 a2 a3 a4 a5 a6
  have hc : H[b + a]? = some (vp_cell (dA t) (n, .inl f)) := a1.2 a _ ha
  refine W.cast hx hb hc ((hK.2 t _ (ab_ty_at ht)).1 n (fun j => .int (f j))) (fun q => by cases q) (by show ¬ (i < 0 ∨ (arrV _ _ _).slots.size ≤ _); rw [arrV_size]; exact ab_ix_in hin) rfl rfl hd fun H1 e z oq => ?_
  have hset : ab_P b sa D dA tb_cl (h.set a (.inl (t, n, .inl (upd f i.toNatClampNeg (vp_nar .char x))))) H1 := by
    refine a1.set ha z oq ?_
    show H1[b + a]? = some (vp_cell (dA t) (n, .inl (upd f i.toNatClampNeg (vp_nar .char x))))
    rw [e]
    rw [vp_cell_i, vp_cell_i, arrV_store]
    congr 2
    funext q
    by_cases hq : q = i.toNatClampNeg
    · subst hq
      simp [updV, upd, vp_nar]
      try rfl
    · simp [updV, upd, vp_nar, hq]
  have hz9 : ab_sl tb_nf (h.set a (.inl (t, n, .inl (upd f i.toNatClampNeg (vp_nar .char x))))) = ab_sl tb_nf h := ab_sl_set _ _ _ _ _ ha rfl
  have k1 := k H1 _ ls hset (a2.put (k := i.toNatClampNeg) z oq (Nat.le_add_right b a)) a3 a4 (by rw [List.length_set]; exact a5) (by rw [hz9]; exact a6)
  rw [List.length_set, hz9] at k1
  exact k1
theorem so_zast (hx : p.tables.exec = Jvm.exec) (hb : c.code = cc) (hK : va_K D tb_cl (ab_ty dA) s) {a t n : Nat} {f : Nat → Int32} {i : Int32} {x : Int32} (hd : decode cc pc = .ok (.bastore, 1)) (ha : h[a]? = some (.inl (t, n, .inl f))) (ht : tb_at[t]? = some .boolean) (hin : ab_ix i n = false) (k : ab_J p l e R s m args below meth c b sa D dA nL n0 z0 Q (pc + 1) (L) (st) (h.set a (.inl (t, n, .inl (upd f i.toNatClampNeg (vp_nar .boolean x)))))) : ab_J p l e R s m args below meth c b sa D dA nL n0 z0 Q (pc) (L) (.int x :: .int i :: .ref a :: st) (h) := by
  intro H locs ls a1 a2 a3 a4 a5 a6
  have hc : H[b + a]? = some (vp_cell (dA t) (n, .inl f)) := a1.2 a _ ha
  refine W.zast hx hb hc ((hK.2 t _ (ab_ty_at ht)).1 n (fun j => .int (f j))) (fun q => by cases q) (by show ¬ (i < 0 ∨ (arrV _ _ _).slots.size ≤ _); rw [arrV_size]; exact ab_ix_in hin) rfl rfl hd fun H1 e z oq => ?_
  have hset : ab_P b sa D dA tb_cl (h.set a (.inl (t, n, .inl (upd f i.toNatClampNeg (vp_nar .boolean x))))) H1 := by
    refine a1.set ha z oq ?_
    show H1[b + a]? = some (vp_cell (dA t) (n, .inl (upd f i.toNatClampNeg (vp_nar .boolean x))))
    rw [e]
    rw [vp_cell_i, vp_cell_i, arrV_store]
    congr 2
    funext q
    by_cases hq : q = i.toNatClampNeg
    · subst hq
      simp [updV, upd, vp_nar]
      try rfl
    · simp [updV, upd, vp_nar, hq]
  have hz9 : ab_sl tb_nf (h.set a (.inl (t, n, .inl (upd f i.toNatClampNeg (vp_nar .boolean x))))) = ab_sl tb_nf h := ab_sl_set _ _ _ _ _ ha rfl
  have k1 := k H1 _ ls hset (a2.put (k := i.toNatClampNeg) z oq (Nat.le_add_right b a)) a3 a4 (by rw [List.length_set]; exact a5) (by rw [hz9]; exact a6)
  rw [List.length_set, hz9] at k1
  exact k1
theorem so_bast (hx : p.tables.exec = Jvm.exec) (hb : c.code = cc) (hK : va_K D tb_cl (ab_ty dA) s) {a t n : Nat} {f : Nat → Int32} {i : Int32} {x : Int32} (hd : decode cc pc = .ok (.bastore, 1)) (ha : h[a]? = some (.inl (t, n, .inl f))) (ht : tb_at[t]? = some .byte) (hin : ab_ix i n = false) (k : ab_J p l e R s m args below meth c b sa D dA nL n0 z0 Q (pc + 1) (L) (st) (h.set a (.inl (t, n, .inl (upd f i.toNatClampNeg (vp_nar .byte x)))))) : ab_J p l e R s m args below meth c b sa D dA nL n0 z0 Q (pc) (L) (.int x :: .int i :: .ref a :: st) (h) := by
  intro H locs ls a1 a2 a3 a4 a5 a6
  have hc : H[b + a]? = some (vp_cell (dA t) (n, .inl f)) := a1.2 a _ ha
  refine W.bast hx hb hc ((hK.2 t _ (ab_ty_at ht)).1 n (fun j => .int (f j))) (fun q => by cases q) (by show ¬ (i < 0 ∨ (arrV _ _ _).slots.size ≤ _); rw [arrV_size]; exact ab_ix_in hin) rfl rfl hd fun H1 e z oq => ?_
  have hset : ab_P b sa D dA tb_cl (h.set a (.inl (t, n, .inl (upd f i.toNatClampNeg (vp_nar .byte x))))) H1 := by
    refine a1.set ha z oq ?_
    show H1[b + a]? = some (vp_cell (dA t) (n, .inl (upd f i.toNatClampNeg (vp_nar .byte x))))
    rw [e]
    rw [vp_cell_i, vp_cell_i, arrV_store]
    congr 2
    funext q
    by_cases hq : q = i.toNatClampNeg
    · subst hq
      simp [updV, upd, vp_nar]
      try rfl
    · simp [updV, upd, vp_nar, hq]
  have hz9 : ab_sl tb_nf (h.set a (.inl (t, n, .inl (upd f i.toNatClampNeg (vp_nar .byte x))))) = ab_sl tb_nf h := ab_sl_set _ _ _ _ _ ha rfl
  have k1 := k H1 _ ls hset (a2.put (k := i.toNatClampNeg) z oq (Nat.le_add_right b a)) a3 a4 (by rw [List.length_set]; exact a5) (by rw [hz9]; exact a6)
  rw [List.length_set, hz9] at k1
  exact k1
theorem so_last (hx : p.tables.exec = Jvm.exec) (hb : c.code = cc) (hK : va_K D tb_cl (ab_ty dA) s) {a t n : Nat} {f : Nat → Int64} {i : Int32} {x : Int64} (hd : decode cc pc = .ok (.lastore, 1)) (ha : h[a]? = some (.inl (t, n, .inr (.inl f)))) (ht : tb_at[t]? = some .long) (hin : ab_ix i n = false) (k : ab_J p l e R s m args below meth c b sa D dA nL n0 z0 Q (pc + 1) (L) (st) (h.set a (.inl (t, n, .inr (.inl (vp_updL f i.toNatClampNeg x)))))) : ab_J p l e R s m args below meth c b sa D dA nL n0 z0 Q (pc) (L) (.long x :: .int i :: .ref a :: st) (h) := by
  intro H locs ls a1 a2 a3 a4 a5 a6
  have hc : H[b + a]? = some (vp_cell (dA t) (n, .inr (.inl f))) := a1.2 a _ ha
  refine W.last hx hb hc ((hK.2 t _ (ab_ty_at ht)).1 n (fun j => .long (f j))) (fun q => by cases q) (by show ¬ (i < 0 ∨ (arrV _ _ _).slots.size ≤ _); rw [arrV_size]; exact ab_ix_in hin) rfl rfl hd fun H1 e z oq => ?_
  have hset : ab_P b sa D dA tb_cl (h.set a (.inl (t, n, .inr (.inl (vp_updL f i.toNatClampNeg x))))) H1 := by
    refine a1.set ha z oq ?_
    show H1[b + a]? = some (vp_cell (dA t) (n, .inr (.inl (vp_updL f i.toNatClampNeg x))))
    rw [e]
    rw [vp_cell_l, vp_cell_l, arrV_store]
    congr 2
    funext q
    by_cases hq : q = i.toNatClampNeg
    · subst hq
      simp [updV, vp_updL]
      try rfl
    · simp [updV, vp_updL, hq]
  have hz9 : ab_sl tb_nf (h.set a (.inl (t, n, .inr (.inl (vp_updL f i.toNatClampNeg x))))) = ab_sl tb_nf h := ab_sl_set _ _ _ _ _ ha rfl
  have k1 := k H1 _ ls hset (a2.put (k := i.toNatClampNeg) z oq (Nat.le_add_right b a)) a3 a4 (by rw [List.length_set]; exact a5) (by rw [hz9]; exact a6)
  rw [List.length_set, hz9] at k1
  exact k1
theorem so_aast (hx : p.tables.exec = Jvm.exec) (hb : c.code = cc) (hK : va_K D tb_cl (ab_ty dA) s) {a v t n ci : Nat} {q9 : vw_C} {vs : List Value} {f : Nat → Option Nat} {i : Int32} (hd : decode cc pc = .ok (.aastore, 1)) (ha : h[a]? = some (.inl (t, n, .inr (.inr (.inr (.inr f)))))) (hv : h[v]? = some (.inr (ci, vs))) (hc9 : tb_cl[ci]? = some q9) (ht : tb_at[t]? = some (.object q9.1)) (hin : ab_ix i n = false) (k : ab_J p l e R s m args below meth c b sa D dA nL n0 z0 Q (pc + 1) (L) (st) (h.set a (.inl (t, n, .inr (.inr (.inr (.inr (va_up f i.toNatClampNeg (some v))))))))) : ab_J p l e R s m args below meth c b sa D dA nL n0 z0 Q (pc) (L) (.ref v :: .int i :: .ref a :: st) (h) := by
  intro H locs ls a1 a2 a3 a4 a5 a6
  have hin2 := ab_ix_in hin
  have hlt : i.toNatClampNeg < n := Nat.not_le.mp fun q => hin2 (Or.inr q)
  have h0 : ¬ i < 0 := fun q => hin2 (Or.inl q)
  have hc : H[b + a]? = some (vp_cell (dA t) (n, .inr (.inr (.inr (.inr (fun j => (f j).map (fun q => b + q))))))) := a1.2 a _ ha
  obtain ⟨r', hr', cellV, g1, g2, g3, -⟩ := a1.2 v _ hv
  have hcls := (hK.1 ci q9 hc9).2
  obtain ⟨kA, comp, k1, k2, k3, -⟩ := (hK.2 t _ (ab_ty_at ht)).2
  have hcomp : comp = D.1 ci := Option.some.inj (k3.symm.trans hcls.1)
  subst hcomp
  obtain ⟨kC, hkC, -⟩ := hcls.2
  refine W.aast hx hb hc (fun q h => by cases h) (fun h => by cases h) k1 k2 rfl hkC ⟨h0, by show _ < (arrV _ _ _).slots.size; rw [arrV_size]; exact hlt⟩ g1 (fun q h => by rw [g3] at h; cases h) (by rw [g2]; exact hkC) (by rw [g2]; exact va_assign hcls) rfl rfl hd fun H1 e z oq => ?_
  have hset : ab_P b sa D dA tb_cl (h.set a (.inl (t, n, .inr (.inr (.inr (.inr (va_up f i.toNatClampNeg (some v)))))))) H1 := by
    refine a1.set ha z oq ?_
    show H1[b + a]? = some (vp_cell (dA t) (n, .inr (.inr (.inr (.inr (fun j => (va_up f i.toNatClampNeg (some v) j).map (fun q => b + q)))))))
    rw [e]
    rw [vp_cell_q, vp_cell_q, arrV_store]
    congr 2
    funext q
    by_cases hq : q = i.toNatClampNeg
    · subst hq
      simp [updV, va_up, va_rf]
    · simp [updV, va_up, hq]
  have hz9 : ab_sl tb_nf (h.set a (.inl (t, n, .inr (.inr (.inr (.inr (va_up f i.toNatClampNeg (some v)))))))) = ab_sl tb_nf h := ab_sl_set _ _ _ _ _ ha rfl
  have k1 := k H1 _ ls hset (a2.put (k := i.toNatClampNeg) z oq (Nat.le_add_right b a)) a3 a4 (by rw [List.length_set]; exact a5) (by rw [hz9]; exact a6)
  rw [List.length_set, hz9] at k1
  exact k1
theorem so_aastN (hx : p.tables.exec = Jvm.exec) (hb : c.code = cc) (hK : va_K D tb_cl (ab_ty dA) s) {a t n : Nat} {C : String} {f : Nat → Option Nat} {i : Int32} (hd : decode cc pc = .ok (.aastore, 1)) (ha : h[a]? = some (.inl (t, n, .inr (.inr (.inr (.inr f)))))) (ht : tb_at[t]? = some (.object C)) (hin : ab_ix i n = false) (k : ab_J p l e R s m args below meth c b sa D dA nL n0 z0 Q (pc + 1) (L) (st) (h.set a (.inl (t, n, .inr (.inr (.inr (.inr (va_up f i.toNatClampNeg none)))))))) : ab_J p l e R s m args below meth c b sa D dA nL n0 z0 Q (pc) (L) (.null :: .int i :: .ref a :: st) (h) := by
  intro H locs ls a1 a2 a3 a4 a5 a6
  have hc : H[b + a]? = some (vp_cell (dA t) (n, .inr (.inr (.inr (.inr (fun j => (f j).map (fun q => b + q))))))) := a1.2 a _ ha
  refine va_WaastN (C := C) hx hb hc ((hK.2 t _ (ab_ty_at ht)).1 n (fun j => va_rf ((f j).map (fun q => b + q)))) (fun h => by cases h) (by show ¬ (i < 0 ∨ (arrV _ _ _).slots.size ≤ _); rw [arrV_size]; exact ab_ix_in hin) rfl rfl hd fun H1 e z oq => ?_
  have hset : ab_P b sa D dA tb_cl (h.set a (.inl (t, n, .inr (.inr (.inr (.inr (va_up f i.toNatClampNeg none))))))) H1 := by
    refine a1.set ha z oq ?_
    show H1[b + a]? = some (vp_cell (dA t) (n, .inr (.inr (.inr (.inr (fun j => (va_up f i.toNatClampNeg none j).map (fun q => b + q)))))))
    rw [e]
    rw [vp_cell_q, vp_cell_q, arrV_store]
    congr 2
    funext q
    by_cases hq : q = i.toNatClampNeg
    · subst hq
      simp [updV, va_up, va_rf]
    · simp [updV, va_up, hq]
  have hz9 : ab_sl tb_nf (h.set a (.inl (t, n, .inr (.inr (.inr (.inr (va_up f i.toNatClampNeg none))))))) = ab_sl tb_nf h := ab_sl_set _ _ _ _ _ ha rfl
  have k1 := k H1 _ ls hset (a2.put (k := i.toNatClampNeg) z oq (Nat.le_add_right b a)) a3 a4 (by rw [List.length_set]; exact a5) (by rw [hz9]; exact a6)
  rw [List.length_set, hz9] at k1
  exact k1
theorem so_get (hx : p.tables.exec = Jvm.exec) (hb : c.code = cc) (hK : va_K D tb_cl (ab_ty dA) s) (hts : ∀ w ∈ tb_ws, w.before args s = true) {own : String} {idx : Nat} {C : String} {T : u_T} {N : Nat} (hown : s.vm.findClass own = some m.cls) {a ci f9 : Nat} {fs : List Value} {v : Value} (hd : decode cc pc = .ok (.getfield idx, 3)) (ha : h[a]? = some (.inr (ci, fs))) (hc : tb_cl[ci]? = some (C, T, N)) (hk : f9 < N) (hin : ∀ w ∈ u_ws C T N, w ∈ tb_ws) (hdecl : (T f9).1 = C) (hlink : (Jvm.Cond.fieldLink own idx C (T f9).2.1 (T f9).2.2.1).before args s = true ∨ ∃ host, va_Nw (.fieldLinkNest own idx C (T f9).2.1 (T f9).2.2.1 host) s) (hv : fs[f9]? = some v) (k : ab_J p l e R s m args below meth c b sa D dA nL n0 z0 Q (pc + 3) (L) (v :: st) (h)) : ab_J p l e R s m args below meth c b sa D dA nL n0 z0 Q (pc) (L) (.ref a :: st) (h) := by
  intro H locs ls a1 a2 a3 a4 a5 a6
  have hv' : (fs.map (ab_v b sa))[f9]? = some (ab_v b sa v) := by rw [List.getElem?_map, hv]; rfl
  have hsm : ∀ x, s.fieldFound? (T f9).1 (T f9).2.1 (T f9).2.2.1 = some x → s.fieldFound? C (T f9).2.1 (T f9).2.2.1 = some x := fun x q => by rw [hdecl] at q; exact q
  rcases hlink with hl | ⟨host, hl⟩
  · exact va_get (ws := [(b + a, .inr (ci, fs.map (ab_v b sa)))]) hx hb hts hin hown hK (ab_P.one a1 ha) 0 rfl hc f9 hk hl hsm hv' hd (k H locs ls a1 a2 a3 a4 a5 a6)
  · exact va_getN (ws := [(b + a, .inr (ci, fs.map (ab_v b sa)))]) hx hb hts hin hown hK (ab_P.one a1 ha) 0 rfl hc f9 hk (va_Nw.use rfl hl) hsm hv' hd (k H locs ls a1 a2 a3 a4 a5 a6)
theorem ab_f_ok {ty : FieldType} {v : Value} (hf : ab_f ty v = true) : narrow ty (ab_v b sa v) = ab_v b sa v ∧ fits ty (ab_v b sa v) = true := by
  unfold ab_f at hf
  split at hf
  · exact ⟨rfl, rfl⟩
  · exact ⟨rfl, rfl⟩
  · next x =>
    simp only [Bool.or_eq_true, beq_iff_eq] at hf
    rcases hf with rfl | rfl
    · show narrow .boolean (.int 0) = .int 0 ∧ fits .boolean (.int 0) = true
      decide
    · show narrow .boolean (.int 1) = .int 1 ∧ fits .boolean (.int 1) = true
      decide
  · next x =>
    simp only [Bool.and_eq_true, decide_eq_true_eq] at hf
    obtain ⟨j, hj, rfl⟩ := nI_of2 (M := 65535) (n := 65535) (by decide) (Int32.not_lt.mpr hf.1) hf.2
    have h1 := pk_charN (q := j) (by omega)
    exact ⟨h1.1, h1.2⟩
  · next x =>
    simp only [Bool.and_eq_true, decide_eq_true_eq] at hf
    have h2 : x.toInt8.toInt32 = x := by
      have l1 : (-128 : Int) ≤ x.toInt := by have := Int32.le_iff_toInt_le.mp hf.1; simpa using this
      have l2 : x.toInt ≤ 127 := by have := Int32.le_iff_toInt_le.mp hf.2; simpa using this
      apply Int32.toInt_inj.mp
      rw [Int8.toInt_toInt32, Int32.toInt_toInt8]
      simp only [Int.bmod]
      omega
    refine ⟨?_, ?_⟩
    · show Value.int x.toInt8.toInt32 = .int x
      rw [h2]
    · show (decide (-128 ≤ x) && decide (x ≤ 127)) = true
      simp [hf.1, hf.2]
  · exact ⟨rfl, rfl⟩
  · exact ⟨rfl, rfl⟩
  · exact ⟨rfl, rfl⟩
  · exact ⟨rfl, rfl⟩
  · exact ⟨rfl, rfl⟩
  · cases hf
theorem so_put (hx : p.tables.exec = Jvm.exec) (hb : c.code = cc) (hK : va_K D tb_cl (ab_ty dA) s) (hts : ∀ w ∈ tb_ws, w.before args s = true) {own : String} {idx : Nat} {C : String} {T : u_T} {N : Nat} (hown : s.vm.findClass own = some m.cls) {a ci f9 : Nat} {fs : List Value} {v : Value} (hd : decode cc pc = .ok (.putfield idx, 3)) (ha : h[a]? = some (.inr (ci, fs))) (hc : tb_cl[ci]? = some (C, T, N)) (hk : f9 < N) (hin : ∀ w ∈ u_ws C T N, w ∈ tb_ws) (hty : ∀ k, k < N → parseFieldDescriptor (T k).2.2.1 = some (tb_ft ci k)) (hnm : ∀ a, a < N → ∀ b, b < N → a ≠ b → (T a).2.1 ≠ (T b).2.1) (hdecl : (T f9).1 = C)
    (hlink : ((T f9).2.2.2 = false ∧ ((Jvm.Cond.fieldLink own idx C (T f9).2.1 (T f9).2.2.1).before args s = true ∨ ∃ host, va_Nw (.fieldLinkNest own idx C (T f9).2.1 (T f9).2.2.1 host) s)) ∨ ((T f9).2.2.2 = true ∧ meth.name = "<init>" ∧ C = own ∧ (Jvm.Cond.fieldLink own idx C (T f9).2.1 (T f9).2.2.1).before args s = true)) (hl : f9 < fs.length) (hf : ab_f (tb_ft ci f9) v = true) (k : ab_J p l e R s m args below meth c b sa D dA nL n0 z0 Q (pc + 3) (L) (st) (h.set a (.inr (ci, fs.set f9 v)))) : ab_J p l e R s m args below meth c b sa D dA nL n0 z0 Q (pc) (L) (v :: .ref a :: st) (h) := by
  intro H locs ls a1 a2 a3 a4 a5 a6
  obtain ⟨hn, hfit⟩ := ab_f_ok (b := b) (sa := sa) hf
  have hap := va_apart (own := own) hts hin (tb_ft ci) hty hnm hK hc
  obtain ⟨r, h1, cell, q1, q2, q3, q4⟩ := a1.2 a _ ha
  have hr : r = (C, T, N) := Option.some.inj (h1.symm.trans hc)
  subst hr
  obtain ⟨hS, hfc, kC, hkC, hkind⟩ := hK.1 ci _ hc
  obtain ⟨cf, kf, fi, f, hi, hsl⟩ := hS f9 hk
  have hst := (u_facts hfc hkC (u_lays hts hin hk) hi).1
  have hi' : s.fieldFound? C (T f9).2.1 (T f9).2.2.1 = some (cf, kf, fi, f) := by
    have hi2 := hi
    rw [hdecl] at hi2
    exact hi2
  have fin : ∀ H1 : Heap, H1[b + a]? = some (cell.setSlot f.slot (ab_v b sa v)) → H1.size = H.size → (∀ q, q ≠ b + a → H1[q]? = H[q]?) → W p l e R s m args below meth c H1 (locs ++ [⟨b + a, f.slot⟩]) (h.length - n0) (ab_sl tb_nf h - z0) Q (F0 m (pc + 3) ls (st.map (ab_v b sa))) := by
    intro H1 e1 z oq
    rw [hsl] at e1
    have hset : ab_P b sa D dA tb_cl (h.set a (.inr (ci, fs.set f9 v))) H1 := by
      refine a1.set ha z oq ⟨_, hc, t_OB.to (V := updV (vp_V (fs.map (ab_v b sa))) f9 (ab_v b sa v)) ⟨_, e1, q2, q3, t_set q4 hap hk _⟩ (fun j _ => ?_)⟩
      rw [vp_updV_set (by rw [List.length_map]; exact hl), List.map_set]
    have hz9 : ab_sl tb_nf (h.set a (.inr (ci, fs.set f9 v))) = ab_sl tb_nf h := ab_sl_set _ _ _ _ _ ha rfl
    have k1 := k H1 _ ls hset (a2.put (k := f.slot) z oq (Nat.le_add_right b a)) a3 a4 (by rw [List.length_set]; exact a5) (by rw [hz9]; exact a6)
    rw [List.length_set, hz9] at k1
    exact k1
  have hlay := hts _ (hin _ (u_in_lay hk))
  unfold u_lay at hlay
  rcases hlink with ⟨hfin, hlink⟩ | ⟨hfin, hinit, hC, hlink⟩
  · rw [if_neg (by rw [hfin]; decide)] at hlay
    have h6 := u_store hfc hkC hkind hlay hi (hty f9 hk) hn hfit
    rcases hlink with hlk | ⟨host, hlk⟩
    · exact W.putK hx hb (f := f) ⟨hown, hlk, ⟨_, _, _, hi'⟩, hst⟩ (by rw [q2]; exact h6) q1 q3 (by rw [hsl]; exact k2_hasslot (q4 f9 hk)) rfl rfl hd fin
    · exact va_WputK hx hb (f := f) hown (va_Nw.use rfl hlk) hi' hst (by rw [q2]; exact h6) q1 q3 (by rw [hsl]; exact k2_hasslot (q4 f9 hk)) rfl rfl hd fin
  · rw [if_pos hfin] at hlay
    have hcf : m.cls = cf := by
      obtain ⟨_, _, c', _, _, _, -, -, hf', -, -, -, hown2, -⟩ := Cond.laysFinal_spec hlay
      have e1 : c' = cf := by have := hi.symm.trans hf'; simp at this; exact this.1.symm
      rw [hdecl, hC] at hown2
      rw [← e1]; exact Option.some.inj (hown.symm.trans hown2)
    have h6 := u_fits hfc hkC hkind (Or.inr hlay) hi (hty f9 hk) hn hfit
    exact W.putFinK hx hb hown hlink hi' hst hcf hinit (by rw [q2]; exact h6) q1 q3 (by rw [hsl]; exact k2_hasslot (q4 f9 hk)) rfl rfl hd fin
theorem so_new (hx : p.tables.exec = Jvm.exec) (hb : c.code = cc) (hK : va_K D tb_cl (ab_ty dA) s) (hts : ∀ w ∈ tb_ws, w.before args s = true) {own : String} {idx : Nat} {C : String} {T : u_T} {N : Nat} (hown : s.vm.findClass own = some m.cls) {ci : Nat} (hd : decode cc pc = .ok (.new idx, 3)) (hc : tb_cl[ci]? = some (C, T, N)) (hN : N = tb_nf ci) (hin : ∀ w ∈ u_ws C T N, w ∈ tb_ws) (hty : ∀ k, k < N → parseFieldDescriptor (T k).2.2.1 = some (tb_ft ci k)) (hcl : (Jvm.Cond.classLink own idx C).before args s = true) (hinst : (Jvm.Cond.instantiable C N).before args s = true) (hini : (Jvm.Cond.initialized C).before args s = true)
    (hr : h.length - n0 + 1 ≤ R.cells ∧ ab_sl tb_nf h - z0 + tb_nf ci ≤ R.slots) (k : ab_J p l e R s m args below meth c b sa D dA nL n0 z0 Q (pc + 3) (L) (.ref h.length :: st) (h ++ [.inr (ci, (List.range (tb_nf ci)).map (fun k => defaultValue (tb_ft ci k)))])) : ab_J p l e R s m args below meth c b sa D dA nL n0 z0 Q (pc) (L) (st) (h) := by
  intro H locs ls a1 a2 a3 a4 a5 a6
  subst hN
  have hKn := hK.1 ci _ hc
  refine W.newcK hx hb hown hcl hinst hini rfl hd hr.1 hr.2 hKn.2.1 a1.1 fun H1 kC hkC e1 z1 o1 => ?_
  have hP1 : ab_P b sa D dA tb_cl (h ++ [.inr (ci, (List.range (tb_nf ci)).map (fun k => defaultValue (tb_ft ci k)))]) H1 := by
    refine a1.push (by rw [z1, a1.1]) (fun q hq => o1 q (by rw [← a1.1]; exact hq)) ?_
    refine ⟨_, hc, (u_born (tb_ft ci) hts hin hKn hkC e1 hty).to (fun j hj => ?_)⟩
    simp [vp_V, hj, ab_v_def]
  have k1 := k H1 locs ls hP1 ⟨Nat.le_trans a2.1 (by rw [z1, a1.1]; omega), fun q g1 g2 => (o1 q (by rw [← a1.1]; exact Nat.lt_of_lt_of_le g1 a2.1)).trans (a2.2.1 q g1 g2), a2.2.2⟩ a3 a4 (by rw [List.length_append]; omega) (by rw [ab_sl_app]; omega)
  rw [ab_sl_app, List.length_append, show h.length + List.length [(Sum.inr (ci, (List.range (tb_nf ci)).map (fun k => defaultValue (tb_ft ci k))) : va_E)] - n0 = h.length - n0 + 1 by simp; omega, show ab_sl tb_nf h + ab_z tb_nf (.inr (ci, (List.range (tb_nf ci)).map (fun k => defaultValue (tb_ft ci k)))) - z0 = ab_sl tb_nf h - z0 + tb_nf ci by simp only [ab_z]; omega] at k1
  exact k1
theorem so_newa (hx : p.tables.exec = Jvm.exec) (hb : c.code = cc) (hK : va_K D tb_cl (ab_ty dA) s) {aty : ArrayType} {ty : FieldType} {t9 : Nat} {n : Int32} {x0 : ab_A} (hd : decode cc pc = .ok (.newarray aty, 2)) (hty : newarray.typeOf aty = ty) (hprim : ∀ q, ty ≠ .object q) (hbt : componentBytes ty ≤ 8) (hat : tb_at[t9]? = some ty) (harr : (Jvm.Cond.arrayClass (newarray.typeOf aty)).before args s = true) (hx0 : ab_a b x0 = x0) (hx1 : ∀ (cA : ClassId) (N : Nat), vp_cell cA (N, x0) = arrV cA N (fun _ => defaultValue ty)) (hn : ¬ n < 0) (hm : n.toNatClampNeg ≤ 1000000)
    (hr : h.length - n0 + 1 ≤ R.cells ∧ ab_sl tb_nf h - z0 + n.toNatClampNeg ≤ R.slots) (k : ab_J p l e R s m args below meth c b sa D dA nL n0 z0 Q (pc + 2) (L) (.ref h.length :: st) (h ++ [.inl (t9, n.toNatClampNeg, x0)])) : ab_J p l e R s m args below meth c b sa D dA nL n0 z0 Q (pc) (L) (.int n :: st) (h) := by
  intro H locs ls a1 a2 a3 a4 a5 a6
  subst hty
  refine va_newaK hx hb harr rfl hd rfl hn rfl (by have := Nat.mul_le_mul hm hbt; omega) hr.1 hr.2 a1.1 fun H1 cA e1 z1 o1 hAr hNm => ?_
  have hcA : cA = dA t9 := by
    have h2 := (hK.2 t9 _ (ab_ty_at hat)).2
    revert h2 hprim hNm
    generalize newarray.typeOf aty = ty2
    intro hp hN h2
    cases ty2 with
    | object q => exact absurd rfl (hp q)
    | _ => exact Option.some.inj (hN.symm.trans h2)
  subst hcA
  have hP1 : ab_P b sa D dA tb_cl (h ++ [.inl (t9, n.toNatClampNeg, x0)]) H1 := by
    refine a1.push (by rw [z1, a1.1]) (fun q hq => o1 q (by rw [← a1.1]; exact hq)) ?_
    show H1[b + h.length]? = some (vp_cell (dA t9) (n.toNatClampNeg, ab_a b x0))
    rw [hx0, hx1]
    exact e1
  have k1 := k H1 locs ls hP1 ⟨Nat.le_trans a2.1 (by rw [z1, a1.1]; omega), fun q g1 g2 => (o1 q (by rw [← a1.1]; exact Nat.lt_of_lt_of_le g1 a2.1)).trans (a2.2.1 q g1 g2), a2.2.2⟩ a3 a4 (by rw [List.length_append]; omega) (by rw [ab_sl_app]; omega)
  rw [ab_sl_app, List.length_append, show h.length + List.length [(Sum.inl (t9, n.toNatClampNeg, x0) : va_E)] - n0 = h.length - n0 + 1 by simp; omega, show ab_sl tb_nf h + ab_z tb_nf (.inl (t9, n.toNatClampNeg, x0)) - z0 = ab_sl tb_nf h - z0 + n.toNatClampNeg by simp only [ab_z]; omega] at k1
  exact k1
theorem so_newq (hx : p.tables.exec = Jvm.exec) (hb : c.code = cc) (hK : va_K D tb_cl (ab_ty dA) s) {own : String} {idx t9 : Nat} {C : String} {n : Int32} (hown : s.vm.findClass own = some m.cls) (hd : decode cc pc = .ok (.anewarray idx, 3)) (hat : tb_at[t9]? = some (.object C)) (hcl : (Jvm.Cond.classLink own idx C).before args s = true) (hao : va_AO C s) (hn : ¬ n < 0) (hm : n.toNatClampNeg ≤ 1000000)
    (hr : h.length - n0 + 1 ≤ R.cells ∧ ab_sl tb_nf h - z0 + n.toNatClampNeg ≤ R.slots) (k : ab_J p l e R s m args below meth c b sa D dA nL n0 z0 Q (pc + 3) (L) (.ref h.length :: st) (h ++ [.inl (t9, n.toNatClampNeg, .inr (.inr (.inr (.inr (fun _ => none)))))])) : ab_J p l e R s m args below meth c b sa D dA nL n0 z0 Q (pc) (L) (.int n :: st) (h) := by
  intro H locs ls a1 a2 a3 a4 a5 a6
  refine W.anew hx hb hown hcl (va_AO.use hao) rfl hd rfl hn (by omega) hr.1 hr.2 fun cA kA comp f1 f2 f3 f4 => ?_
  obtain ⟨_, _, -, -, -, h2⟩ := (hK.2 t9 _ (ab_ty_at hat)).2
  have hcA : cA = dA t9 := Option.some.inj (f1.symm.trans h2)
  subst hcA
  generalize hH1 : H.push ({ cls := dA t9, slots := Array.replicate n.toNatClampNeg .null, vm := .none } : Cell) = H1
  have z1 : H1.size = H.size + 1 := by rw [← hH1, Array.size_push]
  have e1 : H1[H.size]? = some (arrV (dA t9) n.toNatClampNeg (fun _ => .null)) := by rw [← hH1, Array.getElem?_push_size, ← arrV_new]
  have o1 : ∀ q : Nat, q < H.size → H1[q]? = H[q]? := fun q hq => by rw [← hH1, Array.getElem?_push, if_neg (Nat.ne_of_lt hq)]
  have hP1 : ab_P b sa D dA tb_cl (h ++ [.inl (t9, n.toNatClampNeg, .inr (.inr (.inr (.inr (fun _ => none)))))]) H1 := by
    refine a1.push z1 o1 ?_
    show H1[b + h.length]? = some (vp_cell (dA t9) (n.toNatClampNeg, .inr (.inr (.inr (.inr (fun _ => none))))))
    rw [vp_cell_q, ← a1.1]
    exact e1
  have k1 := k H1 locs ls hP1 ⟨Nat.le_trans a2.1 (by rw [z1]; omega), fun q g1 g2 => (o1 q (Nat.lt_of_lt_of_le g1 a2.1)).trans (a2.2.1 q g1 g2), a2.2.2⟩ a3 a4 (by rw [List.length_append]; omega) (by rw [ab_sl_app]; omega)
  rw [ab_sl_app, List.length_append, show h.length + List.length [(Sum.inl (t9, n.toNatClampNeg, .inr (.inr (.inr (.inr (fun _ => none))))) : va_E)] - n0 = h.length - n0 + 1 by simp; omega, show ab_sl tb_nf h + ab_z tb_nf (.inl (t9, n.toNatClampNeg, .inr (.inr (.inr (.inr (fun _ => none)))))) - z0 = ab_sl tb_nf h - z0 + n.toNatClampNeg by simp only [ab_z]; omega] at k1
  rw [List.map_cons] at k1
  rw [a1.1]
  exact k1
theorem so_getsR (hx : p.tables.exec = Jvm.exec) (hb : c.code = cc) (hS9 : ab_S X b sa s s.heap) {own : String} {idx : Nat} (hown : s.vm.findClass own = some m.cls) (hd : decode cc pc = .ok (.getstatic idx, 3)) (hlink : (Jvm.Cond.fieldLink own idx "jdk/internal/util/Preconditions" "SIOOBE_FORMATTER" "Ljava/util/function/BiFunction;").before args s = true) (k : ab_J p l e R s m args below meth c b sa D dA nL n0 z0 Q (pc + 3) (L) (ab_zs X :: st) (h)) : ab_J p l e R s m args below meth c b sa D dA nL n0 z0 Q (pc) (L) (st) (h) := fun H locs ls a1 a2 a3 a4 a5 a6 => va_gets hx hb hS9.2.2.2 a2 hown hlink (fun _ z => z) hd (k H locs ls a1 a2 a3 a4 a5 a6)
theorem ab_objAt (hK : va_K D tb_cl (ab_ty dA) s) {a ci : Nat} {fs : List Value} {C : String} {T : u_T} {N : Nat} (hc : tb_cl[ci]? = some (C, T, N)) (ha : h[a]? = some (.inr (ci, fs))) {H : Heap} (a1 : ab_P b sa D dA tb_cl h H) : ∃ cell : Cell, H[b + a]? = some cell ∧ cell.vm.isStatics = false ∧ s.vm.findClass C = some cell.cls := by
  obtain ⟨r, hr, cell, h1, h2, h3, -⟩ := a1.2 a _ ha
  refine ⟨cell, h1, by rw [h3]; rfl, ?_⟩
  rw [h2]
  exact (hK.1 ci _ hc).2.1
theorem so_castO (hx : p.tables.exec = Jvm.exec) (hb : c.code = cc) (hK : va_K D tb_cl (ab_ty dA) s) {own : String} {idx a ci : Nat} {fs : List Value} {C : String} {T : u_T} {N : Nat} (hown : s.vm.findClass own = some m.cls) (hd : decode cc pc = .ok (.checkcast idx, 3)) (hc : tb_cl[ci]? = some (C, T, N)) (ha : h[a]? = some (.inr (ci, fs))) (hl : (Jvm.Cond.classLink own idx C).before args s = true) (k : ab_J p l e R s m args below meth c b sa D dA nL n0 z0 Q (pc + 3) (L) (.ref a :: st) (h)) : ab_J p l e R s m args below meth c b sa D dA nL n0 z0 Q (pc) (L) (.ref a :: st) (h) := fun H locs ls a1 a2 a3 a4 a5 a6 => va_castS hx hb hown hl (hK.1 ci _ hc).2 (ab_objAt hK hc ha a1) hd (k H locs ls a1 a2 a3 a4 a5 a6)
theorem so_instO (hx : p.tables.exec = Jvm.exec) (hb : c.code = cc) (hK : va_K D tb_cl (ab_ty dA) s) {own : String} {idx a ci : Nat} {fs : List Value} {C : String} {T : u_T} {N : Nat} (hown : s.vm.findClass own = some m.cls) (hd : decode cc pc = .ok (.instanceof idx, 3)) (hc : tb_cl[ci]? = some (C, T, N)) (ha : h[a]? = some (.inr (ci, fs))) (hl : (Jvm.Cond.classLink own idx C).before args s = true) (k : ab_J p l e R s m args below meth c b sa D dA nL n0 z0 Q (pc + 3) (L) (.int 1 :: st) (h)) : ab_J p l e R s m args below meth c b sa D dA nL n0 z0 Q (pc) (L) (.ref a :: st) (h) := fun H locs ls a1 a2 a3 a4 a5 a6 => va_instS hx hb hown hl (hK.1 ci _ hc).2 (ab_objAt hK hc ha a1) hd (k H locs ls a1 a2 a3 a4 a5 a6)
theorem ab_strAt (hS9 : ab_S X b sa s s.heap) {q : Nat} (hq : q < tb_sn) {H : Heap} {locs : List Loc} (a2 : va_S (fun q => b ≤ q) s.heap H locs) : ∃ cell : Cell, H[sa q]? = some cell ∧ cell.vm.isStatics = false ∧ s.vm.findClass "java/lang/String" = some cell.cls := by
  obtain ⟨cell, h1, h2, h3, h4⟩ := (hS9.1.1 q hq).1
  exact ⟨cell, by rw [a2.2.1 _ (Array.getElem?_eq_some_iff.mp h1).1 h4]; exact h1, h2, h3⟩
theorem so_castC (hx : p.tables.exec = Jvm.exec) (hb : c.code = cc) (hK : va_K D tb_cl (ab_ty dA) s) (hS9 : ab_S X b sa s s.heap) {own : String} {idx q : Nat} (hown : s.vm.findClass own = some m.cls) (hd : decode cc pc = .ok (.checkcast idx, 3)) (hq : q < tb_sn) (hl : (Jvm.Cond.classLink own idx "java/lang/String").before args s = true) (k : ab_J p l e R s m args below meth c b sa D dA nL n0 z0 Q (pc + 3) (L) (.retAddr q :: st) (h)) : ab_J p l e R s m args below meth c b sa D dA nL n0 z0 Q (pc) (L) (.retAddr q :: st) (h) := fun H locs ls a1 a2 a3 a4 a5 a6 => va_castS hx hb hown hl (hK.1 tb_str ("java/lang/String", tb_T17, 4) rfl).2 (ab_strAt hS9 hq a2) hd (k H locs ls a1 a2 a3 a4 a5 a6)
theorem so_instC (hx : p.tables.exec = Jvm.exec) (hb : c.code = cc) (hK : va_K D tb_cl (ab_ty dA) s) (hS9 : ab_S X b sa s s.heap) {own : String} {idx q : Nat} (hown : s.vm.findClass own = some m.cls) (hd : decode cc pc = .ok (.instanceof idx, 3)) (hq : q < tb_sn) (hl : (Jvm.Cond.classLink own idx "java/lang/String").before args s = true) (k : ab_J p l e R s m args below meth c b sa D dA nL n0 z0 Q (pc + 3) (L) (.int 1 :: st) (h)) : ab_J p l e R s m args below meth c b sa D dA nL n0 z0 Q (pc) (L) (.retAddr q :: st) (h) := fun H locs ls a1 a2 a3 a4 a5 a6 => va_instS hx hb hown hl (hK.1 tb_str ("java/lang/String", tb_T17, 4) rfl).2 (ab_strAt hS9 hq a2) hd (k H locs ls a1 a2 a3 a4 a5 a6)
theorem ab_nn (z : Int32) (hz : ¬ z < 0) : z.toInt = (z.toNatClampNeg : Int) := by
  have h1 := Int32.le_iff_toInt_le.mp (Int32.not_lt.mp hz)
  have h2 : (0 : Int32).toInt = 0 := by decide
  rw [h2] at h1
  show z.toInt = ((z.toInt.toNat : Nat) : Int)
  omega
theorem ab_cy_of {ty : FieldType} {a0 a t0 t1 n0 n1 : Nat} {sp dp n : Int32} {st : List Value} (hg : ab_cy ty a0 a t0 t1 n0 n1 sp dp n st = true) : a0 ≠ a ∧ tb_at[t0]? = some ty ∧ tb_at[t1]? = some ty ∧ ¬ sp < 0 ∧ ¬ dp < 0 ∧ ¬ n < 0 ∧ sp.toNatClampNeg + n.toNatClampNeg ≤ n0 ∧ dp.toNatClampNeg + n.toNatClampNeg ≤ n1 ∧ (st.map fun v => v.category).sum ≤ 2 := by
  unfold ab_cy at hg
  simp only [Bool.and_eq_true, decide_eq_true_eq] at hg
  obtain ⟨⟨⟨⟨⟨⟨⟨⟨g1, g2⟩, g3⟩, g4⟩, g5⟩, g6⟩, g7⟩, g8⟩, g9⟩ := hg
  exact ⟨g1, g2, g3, g4, g5, g6, g7, g8, g9⟩
theorem ab_fit_b {x : Int32} (h : ab_f .byte (.int x) = true) : fits .byte (.int x) = true := by
  simpa [ab_f, fits] using h
theorem so_copyB (hx : p.tables.exec = Jvm.exec) (hb : c.code = cc) (hK : va_K D tb_cl (ab_ty dA) s) (hml : c.maxLocals = nL) {own : String} {idx a0 a t0 t1 nq n1 : Nat} {f g : Nat → Int32} {sp dp n : Int32} (hown : s.vm.findClass own = some m.cls) (hl : (Jvm.Cond.methodLink own idx arraycopyName).before args s = true) (hnat : (Jvm.Cond.native arraycopyName).before args s = true) (hsta : (Jvm.Cond.static arraycopyName).before args s = true) (hini : (Jvm.Cond.initialized "java/lang/System").before args s = true) (hfr : 1 ≤ R.frames) (hlo : 20 ≤ R.locals) (hd : decode cc pc = .ok (.invokestatic idx, 3)) (ha0 : h[a0]? = some (.inl (t0, nq, .inl f))) (ha : h[a]? = some (.inl (t1, n1, .inl g))) (hg : ab_cy .byte a0 a t0 t1 nq n1 sp dp n st = true) (hfit : ∀ i, i < n.toNatClampNeg → ab_f .byte (.int (f (sp.toNatClampNeg + i))) = true) (k : ab_J p l e R s m args below meth c b sa D dA nL n0 z0 Q (pc + 3) (L) (st) (h.set a (.inl (t1, n1, .inl (va_cpy f g sp.toNatClampNeg dp.toNatClampNeg n.toNatClampNeg))))) : ab_J p l e R s m args below meth c b sa D dA nL n0 z0 Q (pc) (L) (.int n :: .int dp :: .ref a :: .int sp :: .ref a0 :: st) (h) := by
  intro H locs ls a1 a2 a3 a4 a5 a6
  obtain ⟨g1, g2, g3, g4, g5, g6, g7, g8, g9⟩ := ab_cy_of hg
  have hc0 : H[b + a0]? = some (vp_cell (dA t0) (nq, .inl f)) := a1.2 a0 _ ha0
  have hc1 : H[b + a]? = some (vp_cell (dA t1) (n1, .inl g)) := a1.2 a _ ha
  obtain ⟨-, k0, hk0, cm0, hkk0⟩ := (hK.2 t0 _ (ab_ty_at g2)).1 nq (fun j => .int (f j))
  obtain ⟨-, k1, hk1, cm1, hkk1⟩ := (hK.2 t1 _ (ab_ty_at g3)).1 n1 (fun j => .int (g j))
  intro T hT Y
  have hY := Y.arraycopy hx hown hl hnat hsta hini (src := b + a0) (dst := b + a) (cs := vp_cell (dA t0) (nq, .inl f)) (cd := vp_cell (dA t1) (n1, .inl g)) (srcPos := sp) (destPos := dp) (n := n) (ks := k0) (kd := k1) (sComp := cm0) (dComp := cm1) (sType := .byte) (dType := .byte) (by rw [hT]; exact hc0) (by rw [hT]; exact hc1) (fun _ z => by cases z) (fun _ z => by cases z) (fun z => by cases z) (fun z => by cases z) hk0 hk1 hkk0 hkk1 (by decide) g4 g5 g6
    (by rw [ab_nn sp g4, ab_nn n g6]; show ¬ _ > ((arrV (dA t0) nq (fun j => .int (f j))).slots.size : Int); rw [arrV_size]; omega)
    (by rw [ab_nn dp g5, ab_nn n g6]; show ¬ _ > ((arrV (dA t1) n1 (fun j => .int (g j))).slots.size : Int); rw [arrV_size]; omega)
    (fun vm9 _ i hi => by
      have ei : (vp_cell (dA t0) (nq, .inl f)).slots.getD (sp.toNatClampNeg + i) .null = .int (f (sp.toNatClampNeg + i)) := by
        show (arrV (dA t0) nq (fun j => .int (f j))).slots.getD _ _ = _
        rw [Array.getD_eq_getD_getElem?, arrV_read _ _ (by omega)]
        rfl
      rw [ei]
      exact ⟨ab_fit_b (hfit i hi), trivial⟩)
    (g := F0 m pc ls (.int n :: .int dp :: .ref (b + a) :: .int sp :: .ref (b + a0) :: st.map (ab_v b sa))) rfl (by rw [hml]; exact a3.1) (rest := st.map (ab_v b sa)) rfl (by rw [hb]; exact hd) hfr (by rw [ab_sum]; show 2 * 0 + _ + (7 + 11) ≤ _; omega)
  obtain ⟨vm', Y', step⟩ := hY
  have e1 : copied (vp_cell (dA t0) (nq, .inl f)) (vp_cell (dA t1) (n1, .inl g)) sp dp n = vp_cell (dA t1) (n1, .inl (va_cpy f g sp.toNatClampNeg dp.toNatClampNeg n.toNatClampNeg)) := va_copied (fun z => .int z) (dA t0) (dA t1) f g g7
  rw [e1] at Y' step
  have hlt : b + a < H.size := (Array.getElem?_eq_some_iff.mp hc1).1
  have hheap : ((T.setVm vm').setCell (b + a) (vp_cell (dA t1) (n1, .inl (va_cpy f g sp.toNatClampNeg dp.toNatClampNeg n.toNatClampNeg)))).heap = H.setIfInBounds (b + a) (vp_cell (dA t1) (n1, .inl (va_cpy f g sp.toNatClampNeg dp.toNatClampNeg n.toNatClampNeg))) := by rw [← hT]; rfl
  have oq : ∀ q : Nat, q ≠ b + a → (H.setIfInBounds (b + a) (vp_cell (dA t1) (n1, .inl (va_cpy f g sp.toNatClampNeg dp.toNatClampNeg n.toNatClampNeg))))[q]? = H[q]? := fun q hq => by simp [Array.getElem?_setIfInBounds, Ne.symm hq]
  have hz9 : ab_sl tb_nf (h.set a (.inl (t1, n1, .inl (va_cpy f g sp.toNatClampNeg dp.toNatClampNeg n.toNatClampNeg)))) = ab_sl tb_nf h := ab_sl_set _ _ _ _ _ ha rfl
  have k9 := k (H.setIfInBounds (b + a) (vp_cell (dA t1) (n1, .inl (va_cpy f g sp.toNatClampNeg dp.toNatClampNeg n.toNatClampNeg)))) (locs ++ ((vp_cell (dA t0) (nq, .inl f)).stretch sp.toNatClampNeg n.toNatClampNeg).zipIdx.map fun q => ⟨b + a, dp.toNatClampNeg + q.2⟩) ls (a1.set ha (by simp) oq (show (H.setIfInBounds (b + a) _)[b + a]? = some _ by simp [Array.getElem?_setIfInBounds, hlt] <;> rfl)) ⟨by simp; exact a2.1, fun q r1 r2 => by
      rw [oq q (fun z => r2 (by rw [z]; exact Nat.le_add_right b a))]
      exact a2.2.1 q r1 r2, fun q hq => by
      rcases List.mem_append.mp hq with z | z
      · exact a2.2.2 q z
      · obtain ⟨y, -, hy⟩ := List.mem_map.mp z
        rw [← hy]
        exact Nat.le_add_right b a⟩ a3 a4 (by rw [List.length_set]; exact a5) (by rw [hz9]; exact a6)
  rw [List.length_set, hz9] at k9
  obtain ⟨t9, b1, b2⟩ := k9 _ hheap Y'
  exact ⟨t9, step t9 b1, b2⟩
theorem so_copyL (hx : p.tables.exec = Jvm.exec) (hb : c.code = cc) (hK : va_K D tb_cl (ab_ty dA) s) (hml : c.maxLocals = nL) {own : String} {idx a0 a t0 t1 nq n1 : Nat} {f g : Nat → Int64} {sp dp n : Int32} (hown : s.vm.findClass own = some m.cls) (hl : (Jvm.Cond.methodLink own idx arraycopyName).before args s = true) (hnat : (Jvm.Cond.native arraycopyName).before args s = true) (hsta : (Jvm.Cond.static arraycopyName).before args s = true) (hini : (Jvm.Cond.initialized "java/lang/System").before args s = true) (hfr : 1 ≤ R.frames) (hlo : 20 ≤ R.locals) (hd : decode cc pc = .ok (.invokestatic idx, 3)) (ha0 : h[a0]? = some (.inl (t0, nq, .inr (.inl f)))) (ha : h[a]? = some (.inl (t1, n1, .inr (.inl g)))) (hg : ab_cy .long a0 a t0 t1 nq n1 sp dp n st = true) (k : ab_J p l e R s m args below meth c b sa D dA nL n0 z0 Q (pc + 3) (L) (st) (h.set a (.inl (t1, n1, .inr (.inl (va_cpy f g sp.toNatClampNeg dp.toNatClampNeg n.toNatClampNeg)))))) : ab_J p l e R s m args below meth c b sa D dA nL n0 z0 Q (pc) (L) (.int n :: .int dp :: .ref a :: .int sp :: .ref a0 :: st) (h) := by
  intro H locs ls a1 a2 a3 a4 a5 a6
  obtain ⟨g1, g2, g3, g4, g5, g6, g7, g8, g9⟩ := ab_cy_of hg
  have hc0 : H[b + a0]? = some (vp_cell (dA t0) (nq, .inr (.inl f))) := a1.2 a0 _ ha0
  have hc1 : H[b + a]? = some (vp_cell (dA t1) (n1, .inr (.inl g))) := a1.2 a _ ha
  obtain ⟨-, k0, hk0, cm0, hkk0⟩ := (hK.2 t0 _ (ab_ty_at g2)).1 nq (fun j => .long (f j))
  obtain ⟨-, k1, hk1, cm1, hkk1⟩ := (hK.2 t1 _ (ab_ty_at g3)).1 n1 (fun j => .long (g j))
  intro T hT Y
  have hY := Y.arraycopy hx hown hl hnat hsta hini (src := b + a0) (dst := b + a) (cs := vp_cell (dA t0) (nq, .inr (.inl f))) (cd := vp_cell (dA t1) (n1, .inr (.inl g))) (srcPos := sp) (destPos := dp) (n := n) (ks := k0) (kd := k1) (sComp := cm0) (dComp := cm1) (sType := .long) (dType := .long) (by rw [hT]; exact hc0) (by rw [hT]; exact hc1) (fun _ z => by cases z) (fun _ z => by cases z) (fun z => by cases z) (fun z => by cases z) hk0 hk1 hkk0 hkk1 (by decide) g4 g5 g6
    (by rw [ab_nn sp g4, ab_nn n g6]; show ¬ _ > ((arrV (dA t0) nq (fun j => .long (f j))).slots.size : Int); rw [arrV_size]; omega)
    (by rw [ab_nn dp g5, ab_nn n g6]; show ¬ _ > ((arrV (dA t1) n1 (fun j => .long (g j))).slots.size : Int); rw [arrV_size]; omega)
    (fun vm9 _ i hi => by
      have ei : (vp_cell (dA t0) (nq, .inr (.inl f))).slots.getD (sp.toNatClampNeg + i) .null = .long (f (sp.toNatClampNeg + i)) := by
        show (arrV (dA t0) nq (fun j => .long (f j))).slots.getD _ _ = _
        rw [Array.getD_eq_getD_getElem?, arrV_read _ _ (by omega)]
        rfl
      rw [ei]
      exact ⟨rfl, trivial⟩)
    (g := F0 m pc ls (.int n :: .int dp :: .ref (b + a) :: .int sp :: .ref (b + a0) :: st.map (ab_v b sa))) rfl (by rw [hml]; exact a3.1) (rest := st.map (ab_v b sa)) rfl (by rw [hb]; exact hd) hfr (by rw [ab_sum]; show 2 * 0 + _ + (7 + 11) ≤ _; omega)
  obtain ⟨vm', Y', step⟩ := hY
  have e1 : copied (vp_cell (dA t0) (nq, .inr (.inl f))) (vp_cell (dA t1) (n1, .inr (.inl g))) sp dp n = vp_cell (dA t1) (n1, .inr (.inl (va_cpy f g sp.toNatClampNeg dp.toNatClampNeg n.toNatClampNeg))) := va_copied (fun z => .long z) (dA t0) (dA t1) f g g7
  rw [e1] at Y' step
  have hlt : b + a < H.size := (Array.getElem?_eq_some_iff.mp hc1).1
  have hheap : ((T.setVm vm').setCell (b + a) (vp_cell (dA t1) (n1, .inr (.inl (va_cpy f g sp.toNatClampNeg dp.toNatClampNeg n.toNatClampNeg))))).heap = H.setIfInBounds (b + a) (vp_cell (dA t1) (n1, .inr (.inl (va_cpy f g sp.toNatClampNeg dp.toNatClampNeg n.toNatClampNeg)))) := by rw [← hT]; rfl
  have oq : ∀ q : Nat, q ≠ b + a → (H.setIfInBounds (b + a) (vp_cell (dA t1) (n1, .inr (.inl (va_cpy f g sp.toNatClampNeg dp.toNatClampNeg n.toNatClampNeg)))))[q]? = H[q]? := fun q hq => by simp [Array.getElem?_setIfInBounds, Ne.symm hq]
  have hz9 : ab_sl tb_nf (h.set a (.inl (t1, n1, .inr (.inl (va_cpy f g sp.toNatClampNeg dp.toNatClampNeg n.toNatClampNeg))))) = ab_sl tb_nf h := ab_sl_set _ _ _ _ _ ha rfl
  have k9 := k (H.setIfInBounds (b + a) (vp_cell (dA t1) (n1, .inr (.inl (va_cpy f g sp.toNatClampNeg dp.toNatClampNeg n.toNatClampNeg))))) (locs ++ ((vp_cell (dA t0) (nq, .inr (.inl f))).stretch sp.toNatClampNeg n.toNatClampNeg).zipIdx.map fun q => ⟨b + a, dp.toNatClampNeg + q.2⟩) ls (a1.set ha (by simp) oq (show (H.setIfInBounds (b + a) _)[b + a]? = some _ by simp [Array.getElem?_setIfInBounds, hlt] <;> rfl)) ⟨by simp; exact a2.1, fun q r1 r2 => by
      rw [oq q (fun z => r2 (by rw [z]; exact Nat.le_add_right b a))]
      exact a2.2.1 q r1 r2, fun q hq => by
      rcases List.mem_append.mp hq with z | z
      · exact a2.2.2 q z
      · obtain ⟨y, -, hy⟩ := List.mem_map.mp z
        rw [← hy]
        exact Nat.le_add_right b a⟩ a3 a4 (by rw [List.length_set]; exact a5) (by rw [hz9]; exact a6)
  rw [List.length_set, hz9] at k9
  obtain ⟨t9, b1, b2⟩ := k9 _ hheap Y'
  exact ⟨t9, step t9 b1, b2⟩
end AB4
