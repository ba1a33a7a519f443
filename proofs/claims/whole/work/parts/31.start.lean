/-! THE CLAIM OUT OF ONE WALK OF THE LAW'S BODY. Your part is whole_start (and what it stands on); all else here is the same for every law, but numbers. -/
def R_law : String := "PackageKeeperLaw"
def lw_P (b : Addr) (xs : List Int32) (args : Array Value) (s : State) : Prop := args = #[.ref b] ∧ s.IntsAt b xs ∧ xs.length ≤ 3072 ∧ (Jvm.Cond.and given_1 narrow_1).before args s = true
def lw_Q (_ : Array Value) (s : State) (o : Outcome) (t : State) : Prop := o = .returned (some (.int 1)) ∧ Framed s o t [] 600000 7302250
def lw_Z (below : List Frame) (a : Array Value) (s : State) : State → Prop := fun t => ∃ o, t.status = .running ∧ Ended t below o ∧ lw_Q a s o t
/-- the law's own end, with 1 on the stack, nothing written that was there before, its room as the claim has it -/
theorem lw_ret {p : Program} {l : Launch} {e : Env} {s : State} {m : MethodId} {below : List Frame} {meth : Method} {c : Code} {b : Nat} (hx : p.tables.exec = Jvm.exec) (hb : c.code = code) (hr : meth.sig.returnType = ret) (hlocks : meth.locks = false) {pc : Nat} {H : Heap} {ls : Array Slot} (hdg : decode code pc = .ok (.ireturn, 1)) : W p l e room_1 s m #[Value.ref b] below meth c H [] 600000 7302250 (lw_Z below #[Value.ref b] s) (F0 m pc ls [.int 1]) := by
  intro T hT X
  obtain ⟨fs, hret, hrun, hended, hW, hframe⟩ := X.leave (v := some (.int 1)) (hlocks := hlocks) (fun h => by rw [hr] at h; cases h)
  have hmeth' : T.vm.method? m = some meth := X.method'
  refine ⟨T.setFrames fs, ?_, .returned (some (.int 1)), hrun, hended, rfl, ⟨_, rfl⟩, hW, hframe⟩
  jvm_step X.here [X.here.top, hx, hb, hdg, hmeth', hr, ret, narrow_b1]
  (try refine ⟨rfl, ?_⟩); (try refine ⟨rfl, ?_⟩)
  first | (intro acts; rw [hret _ acts rfl rfl rfl]) | rw [hret _ _ rfl rfl rfl]
  exact Steps.refl _
/-- what holds at the law's entry: the machine, the code, the tables' words (any of lw_tbl by 'hts w (by decide +kernel)'), the script of L ints xs at the cell b, what the Statement gives of the start (any of its parts by flat_of_before) -/
def lw_At (p : Program) (s : State) (m : MethodId) (meth : Method) (c : Code) (b L : Nat) (xs : Nat → Int32) : Prop :=
  p.tables.exec = Jvm.exec ∧ c.code = code ∧ meth.sig.returnType = ret ∧ c.maxLocals = 4 ∧ s.vm.findClass R_law = some m.cls ∧ (∀ w ∈ lw_tbl, w.before #[Value.ref b] s = true) ∧ va_X b L xs s s.heap ∧ b < s.heap.size ∧ meth.locks = false ∧ (Jvm.Cond.and given_1 narrow_1).before #[Value.ref b] s = true
theorem st_aty : ∀ ty ∈ tb_at, ty ∈ tb_pa ∨ ∃ C, C ∈ tb_ao ∧ ty = .object C := by
  have h : tb_at = tb_pa ++ tb_ao.map (fun C => FieldType.object C) := by decide +kernel
  intro ty hty
  rw [h] at hty
  rcases List.mem_append.mp hty with h1 | h1
  · exact Or.inl h1
  · obtain ⟨C, hC, rfl⟩ := List.mem_map.mp h1
    exact Or.inr ⟨C, hC, rfl⟩
theorem st_prim : ∀ ty ∈ tb_pa, ty = .char ∨ ty = .long ∨ ty = .int ∨ ty = .byte ∨ ty = .boolean := by decide +kernel

theorem st_K {s : State} {args : Array Value} (hts : ∀ w ∈ tb_ws, w.before args s = true) (hao : ∀ C ∈ tb_ao, va_AO C s) : ∃ (D : va_G) (dA : Nat → ClassId), va_K D tb_cl (ab_ty dA) s := by
  have h0 : ∀ ci : Nat, ∃ q : ClassId × (Nat → Nat), ∀ r, tb_cl[ci]? = some r → u_Kn s r.1 r.2.1 r.2.2 q.1 q.2 := by
    intro ci
    by_cases hci : ci < tb_cl.length
    · obtain ⟨C, T, N, hc, e1, e2, e3, e4, e5, e6, e7, e8, e9⟩ := ck_fld hci
      obtain ⟨cC, iS, hk⟩ := u_known (C := C) (T := T) (N := N) (n := N) hts e7 (hts _ e8)
      refine ⟨(cC, iS), fun r hr => ?_⟩
      rw [hc] at hr
      cases hr
      exact hk
    · refine ⟨(0, fun _ => 0), fun r hr => ?_⟩
      rw [List.getElem?_eq_none (by omega)] at hr
      cases hr
  have h1 : ∀ t : Nat, ∃ cA : ClassId, ∀ ty, tb_at[t]? = some ty → ArrOfT s cA ty ∧ va_RA s cA ty := by
    intro t
    by_cases ht : t < tb_at.length
    · obtain ⟨ty, hty⟩ : ∃ ty, tb_at[t]? = some ty := ⟨_, List.getElem?_eq_getElem ht⟩
      rcases st_aty ty (List.mem_of_getElem? hty) with hp | ⟨C, hC, rfl⟩
      · obtain ⟨cA, kA, comp, hfind, hk, hkind⟩ := Cond.arrayClass_spec (hts _ (tb_in11 (List.mem_map.mpr ⟨ty, hp, rfl⟩)))
        refine ⟨cA, fun ty2 h2 => ?_⟩
        rw [hty] at h2
        cases h2
        refine ⟨fun n z => ⟨fun k h => (by cases h), kA, hk, comp, hkind⟩, ?_⟩
        rcases st_prim ty hp with rfl | rfl | rfl | rfl | rfl <;> exact hfind
      · obtain ⟨comp, c, k, h1, h2, h3, h4, h5⟩ := Cond.arrayOver_spec (va_AO.use (A := #[]) (hao C hC))
        refine ⟨c, fun ty2 hq => ?_⟩
        rw [hty] at hq
        cases hq
        exact ⟨fun n z => ⟨fun k h => (by cases h), k, h3, comp, h4⟩, k, comp, h3, h4, h1, h5⟩
    · refine ⟨0, fun ty hq => ?_⟩
      rw [List.getElem?_eq_none (by omega)] at hq
      cases hq
  obtain ⟨ad, had⟩ := Classical.axiomOfChoice h0
  obtain ⟨dA, hdA⟩ := Classical.axiomOfChoice h1
  refine ⟨(fun ci => (ad ci).1, fun ci => (ad ci).2), dA, fun ci r hr => had ci r hr, fun k r hr => ?_⟩
  unfold ab_ty at hr
  rw [List.getElem?_mapIdx] at hr
  obtain ⟨ty, hty, he⟩ := Option.map_eq_some_iff.mp hr
  subst he
  exact hdA k ty hty
/-- the law's method, its number among the tables' -/
abbrev st_M : Nat := 180
/-- a pure run of the law gives the walk of its body -/
theorem st_go {p : Program} {e : Env} {s : State} {m : MethodId} {below : List Frame} {meth : Method} {c : Code} (l : Launch) {b L : Nat} {xs : Nat → Int32} (C0 : lw_At p s m meth c b L xs) {n : Nat} {h' : List va_E} (hg : ab_g (L, xs) n 1000 st_M 0 [some (.retAddr 1000), none, none, none] [] [] = some (some (.int 1), h')) (hc : h'.length ≤ 600000) (hs : ab_sl tb_nf h' ≤ 7302250) :
    W p l e room_1 s m #[Value.ref b] below meth c s.heap [] 0 0 (lw_Z below #[Value.ref b] s) (entryFrame m ([Value.ref b] : List Value).toArray 4) := by
  obtain ⟨hx, hb, hr, hml, hown, hts0, hX, hbl, hlk, hgv⟩ := C0
  have hts : ∀ w ∈ tb_ws, w.before #[Value.ref b] s = true := fun w hw => hts0 w (st_ws w hw)
  have hnw : ∀ w ∈ tb_nw, va_Nw w s := fun w hw => va_Nw.of (ab_nw_on hw) (hts0 w (st_in st_nw w hw))
  have hao : ∀ C ∈ tb_ao, va_AO C s := fun C hC => va_AO.of (hts0 _ (st_in st_ao _ (List.mem_map.mpr ⟨C, hC, rfl⟩)))
  obtain ⟨D, dA, hK⟩ := st_K hts hao
  have hC : ab_C (L, xs) s.heap.size (fun _ => b) p room_1 s m #[Value.ref b] meth c D dA st_M := ⟨by decide, hx, hb, hml, hown, hts, hK, hnw, hao, hr, hlk, fun q => absurd q (by decide +kernel), by decide, by decide, hX, hbl, Nat.not_le.mpr hbl⟩
  have hJ := ab_all (L, xs) l n 1000 st_M 0 _ [] [] _ h' hg p e room_1 s m #[Value.ref b] below meth c s.heap.size (fun _ => b) D dA 0 0 (lw_Z below #[Value.ref b] s) hc hs (by decide) (by decide) (Nat.le_refl _) (Nat.le_refl _) hC (fun pc L2 st i r hq hxx _ => by
    have hok := ck_mem (by decide) hq
    unfold ab_ok at hok
    rw [Bool.and_eq_true] at hok
    have hd := of_decide_eq_true hok.1
    dsimp only at hd
    intro H locs ls a1 a2 a3 a4 a5 a6
    refine va_forget (fun q hq => a2.2.2 q hq) ?_
    refine W.widen (k := 600000) (n := 7302250) (by omega) (by omega) ?_
    cases i with
    | ireturn =>
      simp only [ab_x] at hxx
      split at hxx
      · cases hxx
        exact lw_ret hx hb hr hlk hd
      · cases hxx
    | _ =>
      simp only [ab_x, ab_n] at hxx
      repeat' split at hxx
      all_goals cases hxx)
  have h1 := hJ s.heap [] _ ⟨rfl, fun i e he => by cases he⟩ va_S.rf (ab_en_ok s.heap.size (fun _ => b) [.retAddr 1000] (nL := 4) (by decide)) rfl (Nat.le_refl _) (Nat.le_refl _)
  rw [lg_entry_eq]
  exact h1
