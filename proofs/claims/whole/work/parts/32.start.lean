/-! THE CLAIM OUT OF ONE WALK OF THE LAW'S BODY. Your part is whole_start (and what it stands on); all else here is the same for every law, but numbers. -/
def R_law : String := "PackageKeeperLaw"
def lw_P (b : Addr) (xs : List Int32) (args : Array Value) (s : State) : Prop := args = #[.ref b] ∧ s.IntsAt b xs ∧ xs.length ≤ 3072 ∧ (Jvm.Cond.and given_1 narrow_1).before args s = true
def lw_Q (_ : Array Value) (s : State) (o : Outcome) (t : State) : Prop := o = .returned (some (.int 1)) ∧ Framed s o t [] 600000 7302250
def lw_Z (below : List Frame) (a : Array Value) (s : State) : State → Prop := fun t => ∃ o, t.status = .running ∧ Ended t below o ∧ lw_Q a s o t
/-- the law's own end, with 1 on the stack, nothing written that was there before, its room as the claim has it -/
theorem lw_ret {p : Program} {l : Launch} {e : Env} {s : State} {m : MethodId} {below : List Frame} {meth : Method} {c : Code} {b : Nat} (hx : p.tables.exec = Jvm.exec) (hb : c.code = code) (hr : meth.sig.returnType = ret) (hlocks : meth.locks = false) {pc : Nat} {H : Heap} {ls : Array Slot} (hdg : decode code pc = .ok (.ireturn, 1)) : W p l e room_1 s m #[Value.ref b] below meth c H [] 600000 7302250 (lw_Z below #[Value.ref b] s) (F0 m pc ls [.int 1]) := by
  intro T hT X
  obtain ⟨fs, hret, hrun, hended, hW, hframe⟩ := X.leave (v := some (.int 1)) (hlocks := hlocks) (fun h => by rw [hr] at h; cases h)
  have hmeth' : T.vm.method? m = some meth := X.method'
  refine ⟨T.setFrames fs, ?_, .returned (some (.int 1)), hrun, hended, rfl, ⟨_, rfl⟩, hW, hframe⟩
  jvm_step X.here [X.here.top, hx, hb, hdg, hmeth', hr, ret, narrow_b1]
  (try refine ⟨rfl, ?_⟩); (try refine ⟨rfl, ?_⟩)
  first | (intro acts; rw [hret _ acts rfl rfl rfl]) | rw [hret _ _ rfl rfl rfl]
  exact Steps.refl _
/-- what holds at the law's entry: the machine, the code, the tables' words (any of lw_tbl by 'hts w (by decide +kernel)'), the script of L ints xs at the cell b, what the Statement gives of the start (any of its parts by flat_of_before) -/
def lw_At (p : Program) (s : State) (m : MethodId) (meth : Method) (c : Code) (b L : Nat) (xs : Nat → Int32) : Prop :=
  p.tables.exec = Jvm.exec ∧ c.code = code ∧ meth.sig.returnType = ret ∧ c.maxLocals = 4 ∧ s.vm.findClass R_law = some m.cls ∧ (∀ w ∈ lw_tbl, w.before #[Value.ref b] s = true) ∧ va_X b L xs s s.heap ∧ b < s.heap.size ∧ meth.locks = false ∧ (Jvm.Cond.and given_1 narrow_1).before #[Value.ref b] s = true
theorem st_S {s : State} {b : Nat} (hgv : (Jvm.Cond.and given_1 narrow_1).before #[Value.ref b] s = true) (hts0 : ∀ w ∈ lw_tbl, w.before #[Value.ref b] s = true) (L : Nat) (xs : Nat → Int32) : ∃ (sa : Nat → Nat) (xs1 : Nat → Int32), (∀ j, j < L → xs1 j = xs j) ∧ sa 1000 = b ∧ ab_S (L, xs1) s.heap.size sa s s.heap := by
  have hs : ∀ w ∈ st_fl, w.before #[Value.ref b] s = true := flat_of_before _ hgv
  have hA : ∀ a : Nat, a < s.heap.size → ¬ (fun q => s.heap.size ≤ q) a := fun a h => Nat.not_le.mpr h
  obtain ⟨adK, adV, hS, hE⟩ := vk_Sof (N := tb_sn) (tm := st_t) (len := tb_sl) (byt := tb_sb) (A := fun q => s.heap.size ≤ q) (by decide +kernel) (fun i hi => hs _ (st_f1 i hi)) (fun i hi => hs _ (st_f2 i hi)) (fun i hi => hs _ (st_f3 i hi)) (fun i hi => hs _ (st_f4 i hi)) (fun i hi j hj => hs _ (st_f5 i hi j hj)) (fun i j hi hj hij => (st_f6 i hi j hj hij).imp (hs _) (hs _)) hA
  have main : ∀ (t : Nat) (xs1 : Nat → Int32), va_Z "jdk/internal/util/Preconditions" "SIOOBE_FORMATTER" "Ljava/util/function/BiFunction;" (ab_v s.heap.size (fun k => if k = 3000 then t else if k = 1000 then b else if k < 1000 then adK k else adV (k - 2000)) (ab_zs (L, xs1))) (fun z => s.heap.size ≤ z) s s.heap → ab_S (L, xs1) s.heap.size (fun k => if k = 3000 then t else if k = 1000 then b else if k < 1000 then adK k else adV (k - 2000)) s s.heap := by
   intro t xs1 hz9
   have e1 : ∀ i, i < tb_sn → (fun k => if k = 3000 then t else if k = 1000 then b else if k < 1000 then adK k else adV (k - 2000)) i = adK i := fun i hi => by
    unfold tb_sn at hi
    show (if i = 3000 then t else if i = 1000 then b else if i < 1000 then adK i else adV (i - 2000)) = adK i
    rw [if_neg (by omega), if_neg (by omega), if_pos (by omega)]
   have e2 : ∀ i, i < tb_sn → (fun k => if k = 3000 then t else if k = 1000 then b else if k < 1000 then adK k else adV (k - 2000)) (2000 + i) = adV i := fun i hi => by
    unfold tb_sn at hi
    show (if 2000 + i = 3000 then t else if 2000 + i = 1000 then b else if 2000 + i < 1000 then adK (2000 + i) else adV (2000 + i - 2000)) = adV i
    rw [if_neg (by omega), if_neg (by omega), if_neg (by omega), Nat.add_sub_cancel_left]
   refine ⟨⟨fun i hi => ?_, fun i j hi hj h => ?_⟩, fun z hz => ?_, fun z hz => ?_, hz9⟩
   · rw [e1 i hi, e2 i hi]
     exact hS.1 i hi
   · rw [e1 i hi, e1 j hj] at h
     exact hS.2 i j hi hj h
   · simp only [tb_zv, List.mem_cons, List.not_mem_nil, or_false] at hz
     subst hz
     exact va_Zof (hts0 _ (List.mem_of_getElem? (i := 350) (by decide +kernel))) (hts0 _ (List.mem_of_getElem? (i := 58) (by decide +kernel))) (va_eqi (hs _ (by decide +kernel))) hA
   · simp only [tb_sr, List.mem_cons, List.not_mem_nil, or_false] at hz
     rcases hz with rfl | rfl | rfl | rfl | rfl | rfl | rfl | rfl | rfl | rfl | rfl | rfl | rfl | rfl | rfl | rfl | rfl | rfl | rfl | rfl
     · rw [e1 0 (by decide)]
       exact vk_R.of (hts0 _ (List.mem_of_getElem? (i := 336) (by decide +kernel))) (hE 0 (by decide))
     · rw [e1 1 (by decide)]
       exact vk_R.of (hts0 _ (List.mem_of_getElem? (i := 389) (by decide +kernel))) (hE 1 (by decide))
     · rw [e1 2 (by decide)]
       exact vk_R.of (hts0 _ (List.mem_of_getElem? (i := 390) (by decide +kernel))) (hE 2 (by decide))
     · rw [e1 4 (by decide)]
       exact vk_R.of (hts0 _ (List.mem_of_getElem? (i := 552) (by decide +kernel))) (hE 4 (by decide))
     · rw [e1 3 (by decide)]
       exact vk_R.of (hts0 _ (List.mem_of_getElem? (i := 517) (by decide +kernel))) (hE 3 (by decide))
     · rw [e1 2 (by decide)]
       exact vk_R.of (hts0 _ (List.mem_of_getElem? (i := 1132) (by decide +kernel))) (va_eqR (hs (Jvm.Cond.eq (.string "PackageKeeper$Reader" 90) (.string "PackageKeeperModel" 98)) (by decide +kernel)) (hE 2 (by decide)))
     · rw [e1 0 (by decide)]
       exact vk_R.of (hts0 _ (List.mem_of_getElem? (i := 1122) (by decide +kernel))) (va_eqR (hs (Jvm.Cond.eq (.string "PackageKeeper$Reader" 81) (.string "PackageKeeperModel" 90)) (by decide +kernel)) (hE 0 (by decide)))
     · rw [e1 1 (by decide)]
       exact vk_R.of (hts0 _ (List.mem_of_getElem? (i := 1131) (by decide +kernel))) (va_eqR (hs (Jvm.Cond.eq (.string "PackageKeeper$Reader" 86) (.string "PackageKeeperModel" 96)) (by decide +kernel)) (hE 1 (by decide)))
     · rw [e1 5 (by decide)]
       exact vk_R.of (hts0 _ (List.mem_of_getElem? (i := 1223) (by decide +kernel))) (hE 5 (by decide))
     · rw [e1 4 (by decide)]
       exact vk_R.of (hts0 _ (List.mem_of_getElem? (i := 1258) (by decide +kernel))) (va_eqR (hs (Jvm.Cond.eq (.string "PackageKeeper$Reader" 52) (.string "PackageKeeperModel" 163)) (by decide +kernel)) (hE 4 (by decide)))
     · rw [e1 3 (by decide)]
       exact vk_R.of (hts0 _ (List.mem_of_getElem? (i := 1259) (by decide +kernel))) (va_eqR (hs (Jvm.Cond.eq (.string "PackageKeeper$Reader" 109) (.string "PackageKeeperModel" 165)) (by decide +kernel)) (hE 3 (by decide)))
     · rw [e1 6 (by decide)]
       exact vk_R.of (hts0 _ (List.mem_of_getElem? (i := 1263) (by decide +kernel))) (hE 6 (by decide))
     · rw [e1 7 (by decide)]
       exact vk_R.of (hts0 _ (List.mem_of_getElem? (i := 1306) (by decide +kernel))) (hE 7 (by decide))
     · rw [e1 8 (by decide)]
       exact vk_R.of (hts0 _ (List.mem_of_getElem? (i := 1307) (by decide +kernel))) (hE 8 (by decide))
     · rw [e1 9 (by decide)]
       exact vk_R.of (hts0 _ (List.mem_of_getElem? (i := 1308) (by decide +kernel))) (hE 9 (by decide))
     · rw [e1 10 (by decide)]
       exact vk_R.of (hts0 _ (List.mem_of_getElem? (i := 1309) (by decide +kernel))) (hE 10 (by decide))
     · rw [e1 11 (by decide)]
       exact vk_R.of (hts0 _ (List.mem_of_getElem? (i := 1310) (by decide +kernel))) (hE 11 (by decide))
     · rw [e1 12 (by decide)]
       exact vk_R.of (hts0 _ (List.mem_of_getElem? (i := 1314) (by decide +kernel))) (hE 12 (by decide))
     · rw [e1 5 (by decide)]
       exact vk_R.of (hts0 _ (List.mem_of_getElem? (i := 1173) (by decide +kernel))) (va_eqv (hs (Jvm.Cond.eq (.string "java/lang/StringLatin1" 151) (.string "PackageKeeperModel" 88)) (by decide +kernel)) (hE 5 (by decide)))
     · rw [e1 5 (by decide)]
       exact vk_R.of (hts0 _ (List.mem_of_getElem? (i := 1030) (by decide +kernel))) (va_eqv (hs (Jvm.Cond.eq (.string "java/lang/String" 7) (.string "PackageKeeperModel" 88)) (by decide +kernel)) (hE 5 (by decide)))
  rcases va_Zqof (hts0 _ (List.mem_of_getElem? (i := 366) (by decide +kernel))) (hts0 _ (List.mem_of_getElem? (i := 60) (by decide +kernel))) (hs (Jvm.Cond.isRef (.static "jdk/internal/util/Preconditions" "SIOOBE_FORMATTER" "Ljava/util/function/BiFunction;")) (by decide +kernel)) hA with hq | ⟨t, hq⟩
  · refine ⟨_, fun j => if j = L then 0 else xs j, fun j hj => if_neg (by omega), rfl, main 0 _ ?_⟩
    have e9 : ab_zs (L, fun j => if j = L then 0 else xs j) = .null := by
      unfold ab_zs
      rw [if_pos (by show (if L = L then (0 : Int32) else xs L) = 0; rw [if_pos rfl])]
    rw [e9]
    exact hq
  · refine ⟨_, fun j => if j = L then 1 else xs j, fun j hj => if_neg (by omega), rfl, main t _ ?_⟩
    have e9 : ab_zs (L, fun j => if j = L then 1 else xs j) = .retAddr 3000 := by
      unfold ab_zs
      rw [if_neg (by show ¬ (if L = L then (1 : Int32) else xs L) = 0; rw [if_pos rfl]; decide)]
    rw [e9]
    exact hq
/-- the law's method, its number among the tables' -/
abbrev st_M : Nat := 208
/-- a pure run of the law gives the walk of its body -/
theorem st_go {p : Program} {e : Env} {s : State} {m : MethodId} {below : List Frame} {meth : Method} {c : Code} (l : Launch) {b L : Nat} {xs : Nat → Int32} (C0 : lw_At p s m meth c b L xs) (hall : ∀ xs1 : Nat → Int32, (∀ j, j < L → xs1 j = xs j) → ∃ (n : Nat) (h' : List va_E), ab_g (L, xs1) n 1000 st_M 0 [some (.retAddr 1000), none, none, none] [] [] = some (some (.int 1), h') ∧ h'.length ≤ 600000 ∧ ab_sl tb_nf h' ≤ 7302250) :
    W p l e room_1 s m #[Value.ref b] below meth c s.heap [] 0 0 (lw_Z below #[Value.ref b] s) (entryFrame m ([Value.ref b] : List Value).toArray 4) := by
  obtain ⟨hx, hb, hr, hml, hown, hts0, hX, hbl, hlk, hgv⟩ := C0
  have hts : ∀ w ∈ tb_ws, w.before #[Value.ref b] s = true := fun w hw => hts0 w (st_ws w hw)
  have hnw : ∀ w ∈ tb_nw, va_Nw w s := fun w hw => va_Nw.of (ab_nw_on hw) (hts0 w (st_in st_nw w hw))
  have hao : ∀ C ∈ tb_ao, va_AO C s := fun C hC => va_AO.of (hts0 _ (st_in st_ao _ (List.mem_map.mpr ⟨C, hC, rfl⟩)))
  obtain ⟨D, dA, hK⟩ := st_K hts hao
  obtain ⟨sa, xs1, hxs, hsa, hS9⟩ := st_S hgv hts0 L xs
  obtain ⟨n, h', hg, hc, hs⟩ := hall xs1 hxs
  replace hX : va_X b L xs1 s s.heap := by
    obtain ⟨scr, x1, x2, x3, x4, x5⟩ := hX
    exact ⟨scr, x1, x2, x3, x4, fun j hj => by rw [hxs j hj]; exact x5 j hj⟩
  have hC : ab_C (L, xs1) s.heap.size sa p room_1 s m #[Value.ref b] meth c D dA st_M := ⟨by decide, hx, hb, hml, hown, hts, hK, hnw, hao, hr, hlk, fun q => absurd q (by decide +kernel), by decide, by decide, by rw [hsa]; exact hX, by rw [hsa]; exact hbl, by rw [hsa]; exact Nat.not_le.mpr hbl, hS9⟩
  have hJ := ab_all (L, xs1) l n 1000 st_M 0 _ [] [] _ h' hg p e room_1 s m #[Value.ref b] below meth c s.heap.size sa D dA 0 0 (lw_Z below #[Value.ref b] s) hc hs (by decide) (by decide) (Nat.le_refl _) (Nat.le_refl _) hC (fun pc L2 st i r hq hxx _ => by
    have hok := ck_mem (by decide) hq
    unfold ab_ok at hok
    rw [Bool.and_eq_true] at hok
    have hd := of_decide_eq_true hok.1
    dsimp only at hd
    intro H locs ls a1 a2 a3 a4 a5 a6
    refine va_forget (fun q hq => a2.2.2 q hq) ?_
    refine W.widen (k := 600000) (n := 7302250) (by omega) (by omega) ?_
    cases i with
    | ireturn =>
      simp only [ab_x] at hxx
      split at hxx
      · cases hxx
        exact lw_ret hx hb hr hlk hd
      · cases hxx
    | _ =>
      simp only [ab_x, ab_n] at hxx
      repeat' split at hxx
      all_goals cases hxx)
  have h1 := hJ s.heap [] _ ⟨rfl, fun i e he => by cases he⟩ va_S.rf (ab_en_ok s.heap.size sa [.retAddr 1000] (nL := 4) (by decide)) rfl (Nat.le_refl _) (Nat.le_refl _)
  rw [lg_entry_eq]
  have e9 : ([.retAddr 1000] : List Value).map (ab_v s.heap.size sa) = [Value.ref b] := by rw [← hsa]; rfl
  rw [e9] at h1
  exact h1
