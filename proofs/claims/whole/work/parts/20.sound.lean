theorem ab_ro_at {t : Nat} (h : ab_ro t = true) : ∃ C, tb_at[t]? = some (.object C) := by
  unfold ab_ro at h
  split at h
  next C hC => exact ⟨C, hC⟩
  next => cases h
/-! THE PURE MACHINE, 5: a run of it is a run of the machine. -/
theorem ck_fld {ci : Nat} (h : ci < tb_cl.length) : ∃ (C : String) (T : u_T) (N : Nat), tb_cl[ci]? = some (C, T, N) ∧ C = tb_cn ci ∧ N = tb_nf ci ∧ (∀ k, k < N → (T k).1 = C) ∧ (∀ k, k < N → parseFieldDescriptor (T k).2.2.1 = some (tb_ft ci k)) ∧ (∀ k, k < N → (T k).2.2.2 = tb_fi ci k) ∧ (∀ a, a < N → ∀ b, b < N → a ≠ b → (T a).2.1 ≠ (T b).2.1) ∧ (∀ w ∈ u_ws C T N, w ∈ tb_ws) ∧ Jvm.Cond.instantiable C N ∈ tb_ws ∧ Jvm.Cond.initialized C ∈ tb_ws := by
  have h1 := ck_cl ci h
  unfold ab_ck at h1
  obtain ⟨⟨C, T, N⟩, hq⟩ : ∃ q, tb_cl[ci]? = some q := ⟨_, List.getElem?_eq_getElem h⟩
  rw [hq] at h1
  simp only [Bool.and_eq_true, decide_eq_true_eq, List.all_eq_true, List.mem_range, Bool.or_eq_true] at h1
  obtain ⟨⟨⟨e1, e2⟩, e3⟩, e4⟩ := h1
  have hm : (C, T, N) ∈ tb_cl := List.mem_of_getElem? hq
  refine ⟨C, T, N, hq, e1, e2, fun k hk => (e3 k hk).1.1, fun k hk => (e3 k hk).1.2, fun k hk => (e3 k hk).2, fun a ha b hb hab => ?_, fun w hw => tb_in1 (List.mem_flatMap.mpr ⟨_, hm, hw⟩), tb_in2 (List.mem_flatMap.mpr ⟨_, hm, List.mem_cons_self⟩), tb_in2 (List.mem_flatMap.mpr ⟨_, hm, List.mem_cons_of_mem _ List.mem_cons_self⟩)⟩
  rcases e4 a ha b hb with z | z
  · exact absurd z hab
  · exact z
theorem ck_mem {M : Nat} (h : M < tb_nm) {q : Nat × Instr × Nat} (hq : q ∈ tb_il M) : ab_ok M q = true := by
  have h1 := ck_m M h
  unfold ab_cm at h1
  simp only [Bool.and_eq_true, List.all_eq_true] at h1
  exact h1.2 q hq
theorem ab_k_mem : ∀ (l : List (Nat × Instr × Nat)) (pc : Nat) (i : Instr) (r : Nat), ab_k l pc = some (i, r) → (pc, i, r) ∈ l
  | [], pc, i, r, h => by cases h
  | (a, j, k) :: l, pc, i, r, h => by
    unfold ab_k at h
    split at h
    next hb =>
      have h2 : (j, k) = (i, r) := Option.some.inj h
      cases h2
      have h3 : a = pc := Nat.eq_of_beq_eq_true hb
      subst h3
      exact List.mem_cons_self
    next => exact List.mem_cons_of_mem _ (ab_k_mem l pc i r h)
/-- what a method's frame stands on -/
def ab_C (X : Nat × (Nat → Int32)) (b : Nat) (sa : Nat → Nat) (p : Program) (R : Room) (s : State) (m : MethodId) (args : Array Value) (meth : Method) (c : Code) (D : va_G) (dA : Nat → ClassId) (M : Nat) : Prop :=
  M < tb_nm ∧ p.tables.exec = Jvm.exec ∧ c.code = tb_code M ∧ c.maxLocals = tb_max M ∧ s.vm.findClass (tb_cn (tb_oc M)) = some m.cls ∧ (∀ w ∈ tb_ws, w.before args s = true) ∧ va_K D tb_cl (ab_ty dA) s ∧ (∀ w ∈ tb_nw, va_Nw w s) ∧ (∀ C ∈ tb_ao, va_AO C s) ∧ meth.sig.returnType = tb_ret M ∧ meth.locks = false ∧ ((tb_y M).name = "<init>" → meth.name = "<init>") ∧ 1 ≤ R.frames ∧ 20 ≤ R.locals ∧ va_X (sa 1000) X.1 X.2 s s.heap ∧ sa 1000 < s.heap.size ∧ ¬ b ≤ sa 1000 ∧ ab_S X b sa s s.heap
section AB5
variable {p : Program} {l : Launch} {e : Env} {R : Room} {s : State} {m : MethodId} {args : Array Value} {below : List Frame} {meth : Method} {c : Code} {b : Nat} {sa : Nat → Nat} {D : va_G} {dA : Nat → ClassId} {nL n0 z0 : Nat} {Q : State → Prop} {cc : ByteArray} {pc : Nat} {L : ab_Lo} {st : List Value} {h : List va_E}
theorem ab_flink {M idx r : Nat} {C : String} {T : u_T} {N : Nat} (hts : ∀ w ∈ tb_ws, w.before args s = true) (hnw : ∀ w ∈ tb_nw, va_Nw w s) (hc : tb_cl[r / 64]? = some (C, T, N)) (h : (ab_lk M idx r || ab_ln M idx r) = true) : (Jvm.Cond.fieldLink (tb_cn (tb_oc M)) idx C (T (r % 64)).2.1 (T (r % 64)).2.2.1).before args s = true ∨ ∃ host, va_Nw (.fieldLinkNest (tb_cn (tb_oc M)) idx C (T (r % 64)).2.1 (T (r % 64)).2.2.1 host) s := by
  rcases Bool.or_eq_true _ _ ▸ h with h | h
  · refine Or.inl (hts _ (tb_in3 (List.mem_map.mpr ⟨_, of_decide_eq_true h, ?_⟩)))
    simp only [tb_fc, hc]
  · obtain ⟨z, hz, hq⟩ := List.any_eq_true.mp h
    obtain ⟨e1, e2, e3⟩ := of_decide_eq_true hq
    refine Or.inr ⟨tb_cn z.2.2.2, hnw _ (List.mem_append_left _ (List.mem_map.mpr ⟨z, hz, ?_⟩))⟩
    simp only [tb_fd, e1, e2, e3, hc]
/-- the links of String's own fields -/
theorem ab_slink {M idx r f9 : Nat} (hts : ∀ w ∈ tb_ws, w.before args s = true) (h : (ab_lk M idx r || ab_ln M idx r) = true) (hr : r = tb_str * 64 + f9) (h9 : f9 < 2 := by decide) : (Jvm.Cond.fieldLink (tb_cn (tb_oc M)) idx "java/lang/String" (tb_sf f9).1 (tb_sf f9).2).before args s = true := by
  have hn : ab_ln M idx r = false := by
    cases hq : ab_ln M idx r with
    | false => rfl
    | true =>
      obtain ⟨z, hz, hq⟩ := List.any_eq_true.mp hq
      obtain ⟨e1, e2, e3⟩ := of_decide_eq_true hq
      have h1 := ck_sf z hz
      rw [e3, hr] at h1
      exact absurd (show (tb_str * 64 + f9) / 64 = tb_str by unfold tb_str; omega) h1
  rw [hn, Bool.or_false] at h
  have h2 := hts _ (tb_in3 (List.mem_map.mpr ⟨_, of_decide_eq_true h, rfl⟩))
  rw [hr] at h2
  have h3 : f9 = 0 ∨ f9 = 1 := by omega
  rcases h3 with rfl | rfl
  · simp only [tb_fc, show tb_cl[(tb_str * 64 + 0) / 64]? = some ("java/lang/String", tb_T17, 4) from rfl] at h2
    exact h2
  · simp only [tb_fc, show tb_cl[(tb_str * 64 + 1) / 64]? = some ("java/lang/String", tb_T17, 4) from rfl] at h2
    exact h2
set_option maxHeartbeats 16000000 in
theorem ab_x_ok {X : Nat × (Nat → Int32)} {M r : Nat} {i : Instr} {pc' : Nat} {L' : ab_Lo} {st' : List Value} {h1 : List va_E} (hC : ab_C X b sa p R s m args meth c D dA M) (hq : (pc, i, r) ∈ tb_il M) (hs : ab_x X r pc i L st h = some (.inl (pc', L', st', h1))) (hr : h1.length - n0 ≤ R.cells ∧ ab_sl tb_nf h1 - z0 ≤ R.slots) (hn : n0 ≤ h.length ∧ z0 ≤ ab_sl tb_nf h) (hnL : nL = tb_max M) (k : ab_J p l e R s m args below meth c b sa D dA nL n0 z0 Q (pc') (L') (st') (h1)) : ab_J p l e R s m args below meth c b sa D dA nL n0 z0 Q (pc) (L) (st) (h) := by
  obtain ⟨hM, hx, hb, hml, hown, hts, hK, hnw, hao, hret, hlk, hnm, hfr, hlo, hX, hX1, hX2, hS9⟩ := hC
  have hok := ck_mem hM hq
  unfold ab_ok at hok
  rw [Bool.and_eq_true] at hok
  obtain ⟨hd0, hok⟩ := hok
  have hd := of_decide_eq_true hd0
  clear hd0
  dsimp only at hd hok
  cases i with
  | iadd =>
    simp only [ab_x, ab_n] at hs
    split at hs
    · cases hs; exact so_iadd hx hb hd k
    · cases hs
  | isub =>
    simp only [ab_x, ab_n] at hs
    split at hs
    · cases hs; exact so_isub hx hb hd k
    · cases hs
  | imul =>
    simp only [ab_x, ab_n] at hs
    split at hs
    · cases hs; exact so_imul hx hb hd k
    · cases hs
  | iand =>
    simp only [ab_x, ab_n] at hs
    split at hs
    · cases hs; exact so_iand hx hb hd k
    · cases hs
  | ior =>
    simp only [ab_x, ab_n] at hs
    split at hs
    · cases hs; exact so_ior hx hb hd k
    · cases hs
  | ixor =>
    simp only [ab_x, ab_n] at hs
    split at hs
    · cases hs; exact so_ixor hx hb hd k
    · cases hs
  | ishl =>
    simp only [ab_x, ab_n] at hs
    split at hs
    · cases hs; exact so_ishl hx hb hd k
    · cases hs
  | ishr =>
    simp only [ab_x, ab_n] at hs
    split at hs
    · cases hs; exact so_ishr hx hb hd k
    · cases hs
  | idiv =>
    simp only [ab_x, ab_n] at hs
    split at hs
    · split at hs
      · next hg => cases hs; exact so_idiv hx hb hd hg k
      · cases hs
    · cases hs
  | irem =>
    simp only [ab_x, ab_n] at hs
    split at hs
    · split at hs
      · next hg => cases hs; exact so_irem hx hb hd hg k
      · cases hs
    · cases hs
  | iushr =>
    simp only [ab_x, ab_n] at hs
    split at hs
    · cases hs; exact so_iushr hx hb hd k
    · cases hs
  | ineg =>
    simp only [ab_x, ab_n] at hs
    split at hs
    · cases hs; exact so_ineg hx hb hd k
    · cases hs
  | ladd =>
    simp only [ab_x, ab_n] at hs
    split at hs
    · cases hs; exact so_ladd hx hb hd k
    · cases hs
  | lsub =>
    simp only [ab_x, ab_n] at hs
    split at hs
    · cases hs; exact so_lsub hx hb hd k
    · cases hs
  | lmul =>
    simp only [ab_x, ab_n] at hs
    split at hs
    · cases hs; exact so_lmul hx hb hd k
    · cases hs
  | land =>
    simp only [ab_x, ab_n] at hs
    split at hs
    · cases hs; exact so_land hx hb hd k
    · cases hs
  | lor =>
    simp only [ab_x, ab_n] at hs
    split at hs
    · cases hs; exact so_lor hx hb hd k
    · cases hs
  | lxor =>
    simp only [ab_x, ab_n] at hs
    split at hs
    · cases hs; exact so_lxor hx hb hd k
    · cases hs
  | ldiv =>
    simp only [ab_x, ab_n] at hs
    split at hs
    · split at hs
      · next hg => cases hs; exact so_ldiv hx hb hd hg k
      · cases hs
    · cases hs
  | lrem =>
    simp only [ab_x, ab_n] at hs
    split at hs
    · split at hs
      · next hg => cases hs; exact so_lrem hx hb hd hg k
      · cases hs
    · cases hs
  | lneg =>
    simp only [ab_x, ab_n] at hs
    split at hs
    · cases hs; exact so_lneg hx hb hd k
    · cases hs
  | lshl =>
    simp only [ab_x, ab_n] at hs
    split at hs
    · cases hs; exact so_lshl hx hb hd k
    · cases hs
  | lshr =>
    simp only [ab_x, ab_n] at hs
    split at hs
    · cases hs; exact so_lshr hx hb hd k
    · cases hs
  | lushr =>
    simp only [ab_x, ab_n] at hs
    split at hs
    · cases hs; exact so_lushr hx hb hd k
    · cases hs
  | i2l =>
    simp only [ab_x, ab_n] at hs
    split at hs
    · cases hs; exact so_i2l hx hb hd k
    · cases hs
  | l2i =>
    simp only [ab_x, ab_n] at hs
    split at hs
    · cases hs; exact so_l2i hx hb hd k
    · cases hs
  | i2b =>
    simp only [ab_x, ab_n] at hs
    split at hs
    · cases hs; exact so_i2b hx hb hd k
    · cases hs
  | i2s =>
    simp only [ab_x, ab_n] at hs
    split at hs
    · cases hs; exact so_i2s hx hb hd k
    · cases hs
  | i2c =>
    simp only [ab_x, ab_n] at hs
    split at hs
    · cases hs; exact so_i2c hx hb hd k
    · cases hs
  | lcmp =>
    simp only [ab_x, ab_n] at hs
    split at hs
    · cases hs; exact so_lcmp hx hb hd k
    · cases hs
  | iconst n =>
    simp only [ab_x, ab_n] at hs
    cases hs; exact so_iconst hx hb hd k
  | bipush n =>
    simp only [ab_x, ab_n] at hs
    cases hs; exact so_bipush hx hb hd k
  | sipush n =>
    simp only [ab_x, ab_n] at hs
    cases hs; exact so_sipush hx hb hd k
  | lconst n =>
    simp only [ab_x, ab_n] at hs
    cases hs; exact so_lconst hx hb hd k
  | aconst_null =>
    simp only [ab_x, ab_n] at hs
    cases hs; exact so_null hx hb hd k
  | getstatic idx =>
    simp only [ab_x, ab_n] at hs
    dsimp only at hok
    split at hs
    · next hr7 =>
      cases hs
      rw [hr7] at hok
      have hok := (Bool.or_eq_true _ _ ▸ hok).resolve_left (fun z => absurd (of_decide_eq_true z) (by omega))
      rw [if_pos rfl] at hok
      exact so_getsR hx hb hS9 hown hd (hts _ (tb_in13 (List.mem_map.mpr ⟨_, of_decide_eq_true hok, rfl⟩))) k
    · next hr7 =>
      split at hs
      · next z hz =>
        cases hs
        have h88 : ¬ r = 8888 := fun y => by subst y; cases hz
        have hok := (Bool.or_eq_true _ _ ▸ hok).resolve_left (fun y => h88 (of_decide_eq_true y))
        rw [if_neg hr7] at hok
        have hw := hts _ (tb_in12 (List.mem_map.mpr ⟨_, of_decide_eq_true hok, rfl⟩))
        simp only [tb_zc, hz] at hw
        exact so_gets hx hb hS9 hown hd (hS9.2.1 _ (List.mem_of_getElem? hz)) hw k
      · cases hs
  | checkcast idx =>
    simp only [ab_x, ab_n] at hs
    dsimp only at hok
    split at hs
    · cases hs
    · next h88 =>
      have hok := (Bool.or_eq_true _ _ ▸ hok).resolve_left (fun y => h88 (of_decide_eq_true y))
      simp only [Bool.and_eq_true, decide_eq_true_eq] at hok
      obtain ⟨C, T, N, hc, e1, -⟩ := ck_fld hok.2
      have hl := hts _ (tb_in7 (List.mem_map.mpr ⟨_, hok.1, rfl⟩))
      dsimp only at hl
      rw [← e1] at hl
      split at hs
      · split at hs
        · next ha =>
          split at hs
          · next hci => subst hci; cases hs; exact so_castO hx hb hK hown hd hc ha hl k
          · cases hs
        · cases hs
      · split at hs
        · next hg =>
          obtain ⟨hg1, hg2⟩ := hg
          cases hs
          rw [hg2] at hc
          have hC : C = "java/lang/String" := (congrArg (fun z => z.1) (Option.some.inj (hc.symm.trans (show tb_cl[tb_str]? = some ("java/lang/String", tb_T17, 4) from rfl))))
          rw [hC] at hl
          exact so_castC hx hb hK hS9 hown hd hg1 hl k
        · cases hs
      · cases hs
  | instanceof idx =>
    simp only [ab_x, ab_n] at hs
    dsimp only at hok
    split at hs
    · cases hs
    · next h88 =>
      have hok := (Bool.or_eq_true _ _ ▸ hok).resolve_left (fun y => h88 (of_decide_eq_true y))
      simp only [Bool.and_eq_true, decide_eq_true_eq] at hok
      obtain ⟨C, T, N, hc, e1, -⟩ := ck_fld hok.2
      have hl := hts _ (tb_in7 (List.mem_map.mpr ⟨_, hok.1, rfl⟩))
      dsimp only at hl
      rw [← e1] at hl
      split at hs
      · split at hs
        · next ha =>
          split at hs
          · next hci => subst hci; cases hs; exact so_instO hx hb hK hown hd hc ha hl k
          · cases hs
        · cases hs
      · split at hs
        · next hg =>
          obtain ⟨hg1, hg2⟩ := hg
          cases hs
          rw [hg2] at hc
          have hC : C = "java/lang/String" := (congrArg (fun z => z.1) (Option.some.inj (hc.symm.trans (show tb_cl[tb_str]? = some ("java/lang/String", tb_T17, 4) from rfl))))
          rw [hC] at hl
          exact so_instC hx hb hK hS9 hown hd hg1 hl k
        · cases hs
      · cases hs
  | ldc idx =>
    simp only [ab_x, ab_n] at hs
    split at hs
    · next hr1 =>
      cases hs
      dsimp only at hok
      rw [if_pos hr1] at hok
      have hR := hS9.2.2.1 (tb_oc M, idx, r - 10000) (of_decide_eq_true hok)
      dsimp only at hR
      exact so_ldcS (k9 := r - 10000) hx hb hown hd hR k
    · next hr1 =>
      dsimp only at hok
      rw [if_neg hr1] at hok
      split at hs
      · next x hxk =>
        cases hs
        have hw := hts _ (tb_in5 (List.mem_map.mpr ⟨_, of_decide_eq_true hok, rfl⟩))
        dsimp only at hw
        rw [List.getD_eq_getElem?_getD, hxk] at hw
        exact fun H locs ls a1 a2 a3 a4 a5 a6 => lv_ldc hx hb hown hw hd (k H locs ls a1 a2 a3 a4 a5 a6)
      · cases hs
  | ldc_w idx =>
    simp only [ab_x, ab_n] at hs
    split at hs
    · next x hxk =>
      cases hs
      have h88 : ¬ r = 8888 := fun y => by subst y; cases hxk
      have hok := (Bool.or_eq_true _ _ ▸ hok).resolve_left (fun y => h88 (of_decide_eq_true y))
      have hw := hts _ (tb_in5 (List.mem_map.mpr ⟨_, of_decide_eq_true hok, rfl⟩))
      dsimp only at hw
      rw [List.getD_eq_getElem?_getD, hxk] at hw
      exact fun H locs ls a1 a2 a3 a4 a5 a6 => lv_ldcw hx hb hown hw hd (k H locs ls a1 a2 a3 a4 a5 a6)
    · cases hs
  | ldc2_w idx =>
    simp only [ab_x, ab_n] at hs
    split at hs
    · next x hxk =>
      cases hs
      have hw := hts _ (tb_in6 (List.mem_map.mpr ⟨_, of_decide_eq_true hok, rfl⟩))
      dsimp only at hw
      rw [List.getD_eq_getElem?_getD, hxk] at hw
      exact fun H locs ls a1 a2 a3 a4 a5 a6 => lv_ldc2 hx hb hown hw hd (k H locs ls a1 a2 a3 a4 a5 a6)
    · cases hs
  | iload i =>
    simp only [ab_x, ab_n] at hs
    split at hs
    · next hi => cases hs; exact so_iload hx hb hd hi k
    · cases hs
  | iload_n i =>
    simp only [ab_x, ab_n] at hs
    split at hs
    · next hi => cases hs; exact so_iload_n hx hb hd hi k
    · cases hs
  | lload i =>
    simp only [ab_x, ab_n] at hs
    split at hs
    · next hi => cases hs; exact so_lload hx hb hd hi k
    · cases hs
  | lload_n i =>
    simp only [ab_x, ab_n] at hs
    split at hs
    · next hi => cases hs; exact so_lload_n hx hb hd hi k
    · cases hs
  | aload i =>
    simp only [ab_x, ab_n] at hs
    split at hs
    · next hi => cases hs; exact so_aload hx hb hd hi k
    · next hi => cases hs; exact so_aloadN hx hb hd hi k
    · next hi => cases hs; exact so_aloadS hx hb hd hi k
    · cases hs
  | aload_n i =>
    simp only [ab_x, ab_n] at hs
    split at hs
    · next hi => cases hs; exact so_aload_n hx hb hd hi k
    · next hi => cases hs; exact so_aload_nN hx hb hd hi k
    · next hi => cases hs; exact so_aload_nS hx hb hd hi k
    · cases hs
  | istore i =>
    simp only [ab_x, ab_n] at hs
    split at hs
    · split at hs
      · next hi => cases hs; exact so_istore hx hb hd hi k
      · cases hs
    · cases hs
  | lstore i =>
    simp only [ab_x, ab_n] at hs
    split at hs
    · split at hs
      · next hi => cases hs; exact so_lstore hx hb hd hi k
      · cases hs
    · cases hs
  | astore i =>
    simp only [ab_x, ab_n] at hs
    split at hs
    · split at hs
      · next hi => cases hs; exact so_astore hx hb hd hi k
      · cases hs
    · split at hs
      · next hi => cases hs; exact so_astoreN hx hb hd hi k
      · cases hs
    · split at hs
      · next hi => cases hs; exact so_astoreS hx hb hd hi k
      · cases hs
    · cases hs
  | istore_n i =>
    simp only [ab_x, ab_n] at hs
    split at hs
    · split at hs
      · next hi => cases hs; exact so_istore_n hx hb hd hi k
      · cases hs
    · cases hs
  | lstore_n i =>
    simp only [ab_x, ab_n] at hs
    split at hs
    · split at hs
      · next hi => cases hs; exact so_lstore_n hx hb hd hi k
      · cases hs
    · cases hs
  | astore_n i =>
    simp only [ab_x, ab_n] at hs
    split at hs
    · split at hs
      · next hi => cases hs; exact so_astore_n hx hb hd hi k
      · cases hs
    · split at hs
      · next hi => cases hs; exact so_astore_nN hx hb hd hi k
      · cases hs
    · split at hs
      · next hi => cases hs; exact so_astore_nS hx hb hd hi k
      · cases hs
    · cases hs
  | iinc i n =>
    simp only [ab_x, ab_n] at hs
    split at hs
    · next hi => cases hs; exact so_iinc hx hb hd hi k
    · cases hs
  | dup =>
    simp only [ab_x, ab_n] at hs
    split at hs
    · split at hs
      · next hg => cases hs; exact so_dup hx hb hd hg k
      · cases hs
    · cases hs
  | pop =>
    simp only [ab_x, ab_n] at hs
    split at hs
    · split at hs
      · next hg => cases hs; exact so_pop hx hb hd hg k
      · cases hs
    · cases hs
  | dup_x1 =>
    simp only [ab_x, ab_n] at hs
    split at hs
    · split at hs
      · next hg => cases hs; exact so_dup_x1 hx hb hd hg.1 hg.2 k
      · cases hs
    · cases hs
  | dup_x2 =>
    simp only [ab_x, ab_n] at hs
    split at hs
    · split at hs
      · next hg => cases hs; exact so_dup_x2 hx hb hd hg.1 hg.2.1 hg.2.2 k
      · cases hs
    · cases hs
  | dup2 =>
    simp only [ab_x, ab_n] at hs
    split at hs
    · split at hs
      · next hg => cases hs; exact so_dup2_11 hx hb hd hg.1 hg.2 k
      · split at hs
        · next hg => cases hs; exact so_dup2_2 hx hb hd hg k
        · cases hs
    · cases hs
  | tableswitch dflt lo hi offs =>
    simp only [ab_x, ab_n] at hs
    split at hs
    · split at hs
      · next hg =>
        split at hs
        · next h0 => cases hs; exact so_tabO hx hb hd hg h0 k
        · cases hs
      · next hg =>
        split at hs
        · next off ho =>
          split at hs
          · next h0 => cases hs; exact so_tabI hx hb hd hg ho h0 k
          · cases hs
        · cases hs
    · cases hs
  | lookupswitch dflt ps =>
    simp only [ab_x, ab_n] at hs
    split at hs
    · split at hs
      · next hg => cases hs; exact so_look hx hb hd hg.1 hg.2 k
      · cases hs
    · cases hs
  | goto off =>
    simp only [ab_x, ab_n] at hs
    cases hs; exact so_goto hx hb hd (of_decide_eq_true hok) k
  | ifCond cd off =>
    simp only [ab_x, ab_n] at hs
    split at hs
    · split at hs
      · next hg => cases hs; exact so_if hx hb hd (of_decide_eq_true hok) (fun _ => k) (fun q => absurd hg q)
      · next hg => cases hs; exact so_if hx hb hd (of_decide_eq_true hok) (fun q => absurd q hg) (fun _ => k)
    · cases hs
  | if_icmp cd off =>
    simp only [ab_x, ab_n] at hs
    split at hs
    · split at hs
      · next hg => cases hs; exact so_icmp hx hb hd (of_decide_eq_true hok) (fun _ => k) (fun q => absurd hg q)
      · next hg => cases hs; exact so_icmp hx hb hd (of_decide_eq_true hok) (fun q => absurd q hg) (fun _ => k)
    · cases hs
  | ifnull off =>
    simp only [ab_x, ab_n] at hs
    split at hs
    · cases hs; exact so_ifnullN hx hb hd (of_decide_eq_true hok) k
    · cases hs; exact so_ifnull hx hb hd k
    · cases hs
  | ifnonnull off =>
    simp only [ab_x, ab_n] at hs
    split at hs
    · cases hs; exact so_ifnonnullN hx hb hd k
    · cases hs; exact so_ifnonnull hx hb hd (of_decide_eq_true hok) k
    · cases hs
  | if_acmp cd off =>
    simp only [ab_x, ab_n] at hs
    have hA9 : ∀ q, q < tb_sn → sa q < b := fun q hq => by
      obtain ⟨_, _, _, _, h4⟩ := (hS9.1.1 q hq).1
      exact Nat.not_le.mp h4
    split at hs
    · split at hs
      · next y x hv hw =>
        split at hs
        · next hg => cases hs; exact so_acmp hx hb hA9 hS9.1.2 hd (of_decide_eq_true hok) hv hw (fun _ => k) (fun q => absurd hg q)
        · next hg => cases hs; exact so_acmp hx hb hA9 hS9.1.2 hd (of_decide_eq_true hok) hv hw (fun q => absurd q hg) (fun _ => k)
      · cases hs
    · cases hs
  | getfield idx =>
    simp only [ab_x, ab_n] at hs
    simp only [Bool.and_eq_true, decide_eq_true_eq] at hok
    obtain ⟨C, T, N, hc, e1, e2, e3, e4, e5, e6, e7, -, -⟩ := ck_fld hok.1.2
    split at hs
    · split at hs
      · next ci fs ha =>
        split at hs
        · next hci =>
          subst hci
          split at hs
          · next v hv => cases hs; exact so_get hx hb hK hts hown hd ha hc (by rw [e2]; exact hok.2) e7 (e3 _ (by rw [e2]; exact hok.2)) (ab_flink hts hnw hc hok.1.1) hv k
          · cases hs
        · cases hs
      · cases hs
    · next q st9 =>
      split at hs
      · next hg =>
        obtain ⟨hg1, hg2⟩ := hg
        cases hs
        have hl9 := ab_slink (f9 := 0) hts hok.1.1 hg2
        exact so_strV hx hb hS9 hown hd hg1 hl9 k
      · split at hs
        · next hg =>
          obtain ⟨hg1, hg2⟩ := hg
          cases hs
          have hl9 := ab_slink (f9 := 1) hts hok.1.1 hg2
          exact so_strC hx hb hS9 hown hd hg1 hl9 k
        · cases hs
    · cases hs
  | putfield idx =>
    simp only [ab_x, ab_n] at hs
    rw [Bool.and_eq_true] at hok
    obtain ⟨hok, hok2⟩ := hok
    simp only [Bool.and_eq_true, decide_eq_true_eq] at hok
    obtain ⟨C, T, N, hc, e1, e2, e3, e4, e5, e6, e7, -, -⟩ := ck_fld hok.1.2
    split at hs
    · split at hs
      · next ci fs ha =>
        split at hs
        · next hg =>
          obtain ⟨rfl, hl, hf⟩ := hg
          cases hs
          have hk9 : r % 64 < N := by rw [e2]; exact hok.2
          refine so_put hx hb hK hts hown hd ha hc hk9 e7 e4 e6 (e3 _ hk9) ?_ hl hf k
          by_cases hfi : (T (r % 64)).2.2.2 = true
          · refine Or.inr ⟨hfi, ?_⟩
            rw [← e5 _ hk9, if_pos hfi] at hok2
            simp only [Bool.and_eq_true, decide_eq_true_eq] at hok2
            refine ⟨hnm hok2.2, by rw [e1, hok2.1.2], ?_⟩
            refine hts _ (tb_in3 (List.mem_map.mpr ⟨_, of_decide_eq_true hok2.1.1, ?_⟩))
            simp only [tb_fc, hc]
          · exact Or.inl ⟨by simpa using hfi, ab_flink hts hnw hc hok.1.1⟩
        · cases hs
      · cases hs
    · cases hs
  | iaload =>
    simp only [ab_x, ab_n] at hs
    split at hs
    · split at hs
      · next ha =>
        split at hs
        · next hg => cases hs; exact so_iald hx hb hK hd ha hg.1 hg.2 k
        · cases hs
      · cases hs
    · split at hs
      · next hg => obtain ⟨rfl, hg⟩ := hg; cases hs; exact so_sld hx hb hX hX1 hX2 hd hg k
      · cases hs
    · cases hs
  | caload =>
    simp only [ab_x, ab_n] at hs
    split at hs
    · split at hs
      · next ha =>
        split at hs
        · next hg => cases hs; exact so_cald hx hb hK hd ha hg.1 hg.2 k
        · cases hs
      · cases hs
    · cases hs
  | laload =>
    simp only [ab_x, ab_n] at hs
    split at hs
    · split at hs
      · next ha =>
        split at hs
        · next hg => cases hs; exact so_lald hx hb hK hd ha hg.1 hg.2 k
        · cases hs
      · cases hs
    · cases hs
  | iastore =>
    simp only [ab_x, ab_n] at hs
    split at hs
    · split at hs
      · next ha =>
        split at hs
        · next hg => cases hs; exact so_iast hx hb hK hd ha hg.1 hg.2 k
        · cases hs
      · cases hs
    · cases hs
  | castore =>
    simp only [ab_x, ab_n] at hs
    split at hs
    · split at hs
      · next ha =>
        split at hs
        · next hg => cases hs; exact so_cast hx hb hK hd ha hg.1 hg.2 k
        · cases hs
      · cases hs
    · cases hs
  | lastore =>
    simp only [ab_x, ab_n] at hs
    split at hs
    · split at hs
      · next ha =>
        split at hs
        · next hg => cases hs; exact so_last hx hb hK hd ha hg.1 hg.2 k
        · cases hs
      · cases hs
    · cases hs
  | baload =>
    simp only [ab_x, ab_n] at hs
    split at hs
    · split at hs
      · next ha =>
        split at hs
        · next hg => cases hs; exact so_zald hx hb hK hd ha hg.1 hg.2 k
        · split at hs
          · next hg => cases hs; exact so_bald hx hb hK hd ha hg.1 hg.2 k
          · cases hs
      · cases hs
    · split at hs
      · next hg => cases hs; exact so_strB hx hb hS9 hd hg.1 hg.2 k
      · cases hs
    · cases hs
  | bastore =>
    simp only [ab_x, ab_n] at hs
    split at hs
    · split at hs
      · next ha =>
        split at hs
        · next hg => cases hs; exact so_zast hx hb hK hd ha hg.1 hg.2 k
        · split at hs
          · next hg => cases hs; exact so_bast hx hb hK hd ha hg.1 hg.2 k
          · cases hs
      · cases hs
    · cases hs
  | aaload =>
    simp only [ab_x, ab_n] at hs
    split at hs
    · split at hs
      · next ha =>
        split at hs
        · next hg =>
          cases hs
          obtain ⟨C, hC⟩ := ab_ro_at hg.1
          exact so_aald hx hb hK hd ha hC hg.2 k
        · cases hs
      · cases hs
    · cases hs
  | aastore =>
    simp only [ab_x, ab_n] at hs
    split at hs
    · split at hs
      · next ha hv =>
        split at hs
        · next hg =>
          cases hs
          obtain ⟨C, hC⟩ := ab_ro_at hg.2.1
          have hg1 := hg.1
          rw [hC] at hg1
          obtain ⟨q9, hq9, he9⟩ := Option.map_eq_some_iff.mp hg1.symm
          exact so_aast hx hb hK hd ha hv hq9 (by rw [hC, ← he9]) hg.2.2 k
        · cases hs
      · cases hs
    · split at hs
      · next ha =>
        split at hs
        · next hg =>
          cases hs
          obtain ⟨C, hC⟩ := ab_ro_at hg.1
          exact so_aastN hx hb hK hd ha hC hg.2 k
        · cases hs
      · cases hs
    · cases hs
  | arraylength =>
    simp only [ab_x, ab_n] at hs
    split at hs
    · split at hs
      · next ha =>
        split at hs
        · next hg => cases hs; exact so_alen hx hb hK hd ha hg k
        · cases hs
      · cases hs
    · split at hs
      · next hg => subst hg; cases hs; exact so_slen hx hb hX hX1 hX2 hd k
      · split at hs
        · next hg => cases hs; exact so_strL hx hb hS9 hd hg k
        · cases hs
    · cases hs
  | new idx =>
    simp only [ab_x, ab_n] at hs
    by_cases h88 : r = 8888
    · subst h88; cases hs
    rw [Bool.or_eq_true] at hok
    replace hok := hok.resolve_left (fun z => h88 (of_decide_eq_true z))
    simp only [Bool.and_eq_true, decide_eq_true_eq] at hok
    obtain ⟨C, T, N, hc, e1, e2, e3, e4, e5, e6, e7, e8, e9⟩ := ck_fld hok.2
    split at hs
    · cases hs
      refine so_new hx hb hK hts hown hd hc e2 e7 e4 (hts _ (tb_in7 (List.mem_map.mpr ⟨_, hok.1, by rw [e1]⟩))) (hts _ e8) (hts _ e9) ?_ k
      rw [List.length_append, ab_sl_app] at hr
      simp only [List.length_cons, List.length_nil, ab_z] at hr
      omega
    · cases hs
  | newarray aty =>
    simp only [ab_x, ab_n] at hs
    split at hs
    · next n st9 =>
      split at hs
      · cases hs
      · next hg =>
        have hg1 : ¬ n < 0 := fun q => hg (Or.inl q)
        have hg2 : n.toNatClampNeg ≤ 1000000 := by have := fun q => hg (Or.inr q); omega
        have hw := hts _ (tb_in11 (List.mem_map.mpr ⟨_, of_decide_eq_true hok, rfl⟩))
        split at hs
        · split at hs
          · next hat =>
            cases hs
            refine so_newa hx hb hK hd rfl (fun _ q => by cases q) (by decide) hat hw rfl (fun _ _ => rfl) hg1 hg2 ?_ k
            rw [List.length_append, ab_sl_app] at hr
            simp only [List.length_cons, List.length_nil, ab_z] at hr
            omega
          · cases hs
        · split at hs
          · next hat =>
            cases hs
            refine so_newa hx hb hK hd rfl (fun _ q => by cases q) (by decide) hat hw rfl (fun _ _ => rfl) hg1 hg2 ?_ k
            rw [List.length_append, ab_sl_app] at hr
            simp only [List.length_cons, List.length_nil, ab_z] at hr
            omega
          · cases hs
        · split at hs
          · next hat =>
            cases hs
            refine so_newa hx hb hK hd rfl (fun _ q => by cases q) (by decide) hat hw rfl (fun _ _ => rfl) hg1 hg2 ?_ k
            rw [List.length_append, ab_sl_app] at hr
            simp only [List.length_cons, List.length_nil, ab_z] at hr
            omega
          · cases hs
        · split at hs
          · next hat =>
            cases hs
            refine so_newa hx hb hK hd rfl (fun _ q => by cases q) (by decide) hat hw rfl (fun _ _ => rfl) hg1 hg2 ?_ k
            rw [List.length_append, ab_sl_app] at hr
            simp only [List.length_cons, List.length_nil, ab_z] at hr
            omega
          · cases hs
        · split at hs
          · next hat =>
            cases hs
            refine so_newa hx hb hK hd rfl (fun _ q => by cases q) (by decide) hat hw rfl (fun _ _ => rfl) hg1 hg2 ?_ k
            rw [List.length_append, ab_sl_app] at hr
            simp only [List.length_cons, List.length_nil, ab_z] at hr
            omega
          · cases hs
        · cases hs
    · cases hs
  | anewarray idx =>
    simp only [ab_x, ab_n] at hs
    simp only [Bool.and_eq_true, decide_eq_true_eq] at hok
    split at hs
    · next n st9 =>
      split at hs
      · cases hs
      · next hg =>
        have hg1 : ¬ n < 0 := fun q => hg (Or.inl q)
        have hg2 : n.toNatClampNeg ≤ 1000000 := by have := fun q => hg (Or.inr q); omega
        split at hs
        · next hro =>
          cases hs
          obtain ⟨C, hC⟩ := ab_ro_at hro
          have han : tb_an r = C := by simp only [tb_an, hC]
          refine so_newq hx hb hK hown hd hC (hts _ (tb_in8 (List.mem_map.mpr ⟨_, hok.1, by rw [← han]⟩))) (hao C (by rw [← han]; exact hok.2)) hg1 hg2 ?_ k
          rw [List.length_append, ab_sl_app] at hr
          simp only [List.length_cons, List.length_nil, ab_z] at hr
          omega
        · cases hs
    · cases hs
  | invokespecial idx =>
    simp only [ab_x] at hs
    split at hs
    · next hr9 =>
      split at hs
      · split at hs
        · next hsum =>
          unfold ab_n at hs
          cases hs
          dsimp only at hok
          rw [if_pos hr9] at hok
          refine fun H locs ls a1 a2 a3 a4 a5 a6 => W.objInit hx hb hown (hts _ (tb_in9 (List.mem_map.mpr ⟨_, of_decide_eq_true hok, rfl⟩))) (hts _ (tb_in10 List.mem_cons_self)) (hts _ (tb_in10 (List.mem_cons_of_mem _ List.mem_cons_self))) rfl (by rw [hml, ← hnL]; exact a3.1) rfl hd hfr ?_ (k H locs ls a1 a2 a3 a4 a5 a6)
          rw [ab_sum]
          show 2 * 0 + _ + 12 ≤ _
          omega
        · cases hs
      · cases hs
    · split at hs
      · cases hs
      · split at hs
        · cases hs
        · cases hs
  | invokevirtual idx =>
    simp only [ab_x] at hs
    repeat' split at hs
    all_goals cases hs
  | invokestatic idx =>
    simp only [ab_x, ab_n] at hs
    split at hs
    · next hr6 =>
      dsimp only at hok
      rw [if_pos hr6] at hok
      have hl := hts _ (tb_in14 (List.mem_map.mpr ⟨_, of_decide_eq_true hok, rfl⟩))
      have h15 : ∀ w ∈ [Jvm.Cond.native arraycopyName, Jvm.Cond.static arraycopyName, Jvm.Cond.initialized "java/lang/System"], w.before args s = true := fun w hw => hts _ (tb_in15 hw)
      have w1 := h15 _ List.mem_cons_self
      have w2 := h15 _ (List.mem_cons_of_mem _ List.mem_cons_self)
      have w3 := h15 _ (List.mem_cons_of_mem _ (List.mem_cons_of_mem _ List.mem_cons_self))
      split at hs
      · split at hs
        · next ha0 ha =>
          split at hs
          · next hg => cases hs; exact so_copyB hx hb hK (hml.trans hnL.symm) hown hl w1 w2 w3 hfr hlo hd ha0 ha hg.1 hg.2 k
          · cases hs
        · next ha0 ha =>
          split at hs
          · next hg => cases hs; exact so_copyL hx hb hK (hml.trans hnL.symm) hown hl w1 w2 w3 hfr hlo hd ha0 ha hg k
          · cases hs
        · cases hs
      · cases hs
    · next hr6 =>
      split at hs
      · next hr5 =>
        dsimp only at hok
        rw [if_neg hr6, if_pos hr5] at hok
        have hl := hts _ (tb_in16 (List.mem_map.mpr ⟨_, of_decide_eq_true hok, rfl⟩))
        have h17 : ∀ w ∈ [Jvm.Cond.static Lib.Math.min.name, Jvm.Cond.initialized "java/lang/Math", Jvm.Cond.code Lib.Math.min.name Lib.Math.min.code 2 (some .int)], w.before args s = true := fun w hw => hts _ (tb_in17 hw)
        have w1 := h17 _ List.mem_cons_self
        have w2 := h17 _ (List.mem_cons_of_mem _ List.mem_cons_self)
        have w3 := h17 _ (List.mem_cons_of_mem _ (List.mem_cons_of_mem _ List.mem_cons_self))
        split at hs
        · split at hs
          · next hsum =>
            cases hs
            exact fun H locs ls a1 a2 a3 a4 a5 a6 => va_mmin hx hb (by rw [hml, ← hnL]; exact a3.1.symm) hown hl w1 w2 w3 hfr (by rw [ab_sum]; omega) hr.1 hr.2 hd (k H locs ls a1 a2 a3 a4 a5 a6)
          · cases hs
        · cases hs
      · split at hs
        · cases hs
        · cases hs
  | ireturn =>
    simp only [ab_x] at hs
    repeat' split at hs
    all_goals cases hs
  | lreturn =>
    simp only [ab_x] at hs
    repeat' split at hs
    all_goals cases hs
  | areturn =>
    simp only [ab_x] at hs
    repeat' split at hs
    all_goals cases hs
  | return_ =>
    simp only [ab_x] at hs
    repeat' split at hs
    all_goals cases hs
  | _ => cases hs
end AB5
