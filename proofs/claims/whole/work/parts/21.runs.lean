/-! THE PURE MACHINE, 6: calls, answers, runs. -/
def ab_R (d mc ms : Nat) : Room := { frames := d + 1, cells := mc, slots := ms, locals := 60 * d + 24 }
def ab_ws (M : Nat) : List Jvm.Cond := Jvm.Cond.code (tb_y M) (tb_code M) (tb_max M) (tb_ret M) :: tb_ws
def ab_B (X : Nat × (Nat → Int32)) (b : Nat) (sa : Nat → Nat) (D : va_G) (dA : Nat → ClassId) (h : List va_E) (U : State) : Prop := ab_P b sa D dA tb_cl h U.heap ∧ va_K D tb_cl (ab_ty dA) U ∧ (∀ w ∈ tb_nw, va_Nw w U) ∧ (∀ C ∈ tb_ao, va_AO C U) ∧ va_X (sa 1000) X.1 X.2 U U.heap ∧ sa 1000 < U.heap.size ∧ ¬ b ≤ sa 1000 ∧ ab_S X b sa U U.heap
def ab_Pc (X : Nat × (Nat → Int32)) (b : Nat) (sa : Nat → Nat) (D : va_G) (dA : Nat → ClassId) (as : List Value) (h : List va_E) : Array Value → State → Prop := va_Pc (as.map (ab_v b sa)) (ab_B X b sa D dA h)
def ab_Qc (b : Nat) (sa : Nat → Nat) (D : va_G) (dA : Nat → ClassId) (v : Option Value) (h : List va_E) : Array Value → State → Outcome → State → Prop := fun _ u o t => o = .returned (v.map (ab_v b sa)) ∧ ab_P b sa D dA tb_cl h t.heap ∧ va_F (fun q => b ≤ q) u t
theorem ab_nw_on {w : Jvm.Cond} (h : w ∈ tb_nw) : w.onTables = true := by
  rcases List.mem_append.mp h with h | h
  · obtain ⟨z, -, rfl⟩ := List.mem_map.mp h
    unfold tb_fd
    split <;> rfl
  · obtain ⟨z, -, rfl⟩ := List.mem_map.mp h
    rfl
theorem ab_nw_warm {w : Jvm.Cond} (h : w ∈ tb_nw) {s U : State} (hW : s.WarmedH U.vm) (hZ : va_Nw w s) : va_Nw w U := by
  rcases List.mem_append.mp h with h | h
  · obtain ⟨z, hz, rfl⟩ := List.mem_map.mp h
    have hz1 := ck_fn z hz
    obtain ⟨⟨C, T, N⟩, hq⟩ : ∃ q, tb_cl[z.2.2.1 / 64]? = some q := ⟨_, List.getElem?_eq_getElem hz1⟩
    simp only [tb_fd, hq] at hZ ⊢
    exact va_Nw.warmF hW hZ
  · obtain ⟨z, -, rfl⟩ := List.mem_map.mp h
    exact va_Nw.warmM hW hZ
theorem ab_blind (X : Nat × (Nat → Int32)) (b : Nat) (sa : Nat → Nat) (D : va_G) (dA : Nat → ClassId) (as : List Value) (h : List va_E) : FrameBlind (ab_Pc X b sa D dA as h) := by
  intro a U g mk q
  obtain ⟨q0, q1, q2, q3, q4, q5, q6, q7, q8⟩ := q
  exact ⟨q0, q1, va_K.moved (u := U) (U := U.calling g mk a) (Vm.Alike.refl U.vm) q2, fun w hw => va_Nw.same (ab_nw_on hw) (u := U) (U := U.calling g mk a) rfl (q3 w hw), fun C hC => va_AO.moved (u := U) (U := U.calling g mk a) (Vm.Alike.refl U.vm) (q4 C hC), va_X.moved (u := U) (U := U.calling g mk a) (Vm.Alike.refl U.vm) q5, q6, q7, vk_S.moved (u := U) (U := U.calling g mk a) (Vm.Alike.refl U.vm) q8.1, fun z hz => va_Z.moved (u := U) (U := U.calling g mk a) (Vm.Alike.refl U.vm) (q8.2.1 z hz), fun z hz => vk_R.same (u := U) (U := U.calling g mk a) rfl (q8.2.2.1 z hz), va_Z.moved (u := U) (U := U.calling g mk a) (Vm.Alike.refl U.vm) q8.2.2.2⟩
section AB6
variable {p : Program} {l : Launch} {e : Env} {R : Room} {s : State} {m : MethodId} {args : Array Value} {below : List Frame} {meth : Method} {c : Code} {b : Nat} {sa : Nat → Nat} {D : va_G} {dA : Nat → ClassId} {nL n0 z0 : Nat} {Q : State → Prop} {cc : ByteArray} {pc : Nat} {L : ab_Lo} {st : List Value} {h : List va_E}
theorem ab_pre {X : Nat × (Nat → Int32)} (hK : va_K D tb_cl (ab_ty dA) s) (hnw : ∀ w ∈ tb_nw, va_Nw w s) (hao : ∀ C ∈ tb_ao, va_AO C s) (hX : va_X (sa 1000) X.1 X.2 s s.heap) (hX1 : sa 1000 < s.heap.size) (hX2 : ¬ b ≤ sa 1000) (hS9 : ab_S X b sa s s.heap) {H : Heap} {locs : List Loc} (hS : va_S (fun q => b ≤ q) s.heap H locs) (hP : ab_P b sa D dA tb_cl h H) (as : List Value) : ∀ U : State, U.heap = H → s.WarmedH U.vm → ab_Pc X b sa D dA as h (as.map (ab_v b sa)).toArray U :=
  fun U hU hW => ⟨rfl, by rw [hU]; exact hP, va_K.moved hW.alike hK, fun w hw => ab_nw_warm hw hW (hnw w hw), fun C hC => va_AO.moved hW.alike (hao C hC), by rw [hU]; exact va_X.moved hW.alike (hX.kept (hS.2.1 _ hX1 hX2)), by rw [hU]; exact Nat.lt_of_lt_of_le hX1 hS.1, hX2, by rw [hU]; exact vk_S.moved hW.alike (hS9.1.kept hS.2.1), fun z hz => by rw [hU]; exact va_Z.moved hW.alike ((hS9.2.1 z hz).kept hS.2.1), fun z hz => vk_R.warm hW (hS9.2.2.1 z hz), by rw [hU]; exact va_Z.moved hW.alike (hS9.2.2.2.kept hS.2.1)⟩
theorem ab_back {H : Heap} {locs : List Loc} {ls : Array Slot} {mc ms : Nat} {rest : List Value} {v : Option Value} {h1 : List va_E} {av : Array Value} {st0 : List Value} (hmc : mc = h1.length - h.length) (hms : ms = ab_sl tb_nf h1 - ab_sl tb_nf h) (hg : h.length ≤ h1.length ∧ ab_sl tb_nf h ≤ ab_sl tb_nf h1)
    (a2 : va_S (fun q => b ≤ q) s.heap H locs) (a3 : ab_L b sa nL ls L) (a4 : L.length = nL) (a5 : n0 ≤ h.length) (a6 : z0 ≤ ab_sl tb_nf h) (run : va_Run p l e R s m args below meth c H locs (h.length - n0) (ab_sl tb_nf h - z0) mc ms (F0 m pc ls st0) (rest.map (ab_v b sa)) (ab_Qc b sa D dA v h1 av) (fun q => b ≤ q)) (k : ab_J p l e R s m args below meth c b sa D dA nL n0 z0 Q (pc + 3) (L) (v.toList ++ rest) (h1)) :
    W p l e R s m args below meth c H locs (h.length - n0) (ab_sl tb_nf h - z0) Q (F0 m pc ls st0) := by
  intro T hT X
  obtain ⟨v0, u0, t, T', Ls, e0, X', hL, e1, e2, ⟨hv, hP', hz, hk⟩, st1⟩ := run T hT X
  have hv' : v0 = v.map (ab_v b sa) := Outcome.returned.inj hv
  subst hv'
  rw [e0] at hz hk
  have k1 := k T'.heap (locs ++ Ls) ls (by rw [e1]; exact hP') ⟨Nat.le_trans a2.1 (by rw [e1]; exact hz), fun q g1 g2 => by rw [e1, hk q (Nat.lt_of_lt_of_le g1 a2.1) g2]; exact a2.2.1 q g1 g2, fun q hq => by
      rcases List.mem_append.mp hq with h | h
      · exact a2.2.2 q h
      · exact hL q h⟩ a3 a4 (by omega) (by omega)
  rw [show h1.length - n0 = h.length - n0 + mc by omega, show ab_sl tb_nf h1 - z0 = ab_sl tb_nf h - z0 + ms by omega] at k1
  have hst : (v.toList ++ rest).map (ab_v b sa) = (v.map (ab_v b sa)).toList ++ rest.map (ab_v b sa) := by cases v <;> rfl
  rw [hst] at k1
  obtain ⟨t2, b1, b2⟩ := k1 T' rfl X'
  exact ⟨t2, st1 t2 b1, b2⟩
theorem ab_good (M : Nat) (h : M < tb_nc) : GoodIn tb_ws (ab_ws M) := by
  intro w hw
  rcases List.mem_cons.mp hw with rfl | hw
  · have hm : Jvm.Cond.code (tb_y M) (tb_code M) (tb_max M) (tb_ret M) ∈ tb_ws := tb_in0 (List.mem_flatMap.mpr ⟨M, List.mem_range.mpr h, List.mem_cons_self⟩)
    exact ⟨hm, ck_ws _ hm⟩
  · exact ⟨hw, ck_ws _ hw⟩
theorem ab_mlink {o idx r : Nat} (h : (decide ((o, idx, r) ∈ tb_ml) || tb_mn.any (fun z => decide (z.1 = o ∧ z.2.1 = idx ∧ z.2.2.1 = r))) = true) (hts : ∀ w ∈ tb_ws, w.before args s = true) (hnw : ∀ w ∈ tb_nw, va_Nw w s) : (Jvm.Cond.methodLink (tb_cn o) idx (tb_y r) ∈ tb_ws) ∨ ∃ host, va_Nw (.methodLinkNest (tb_cn o) idx (tb_y r) host) s := by
  rcases Bool.or_eq_true _ _ ▸ h with h | h
  · exact Or.inl (tb_in4 (List.mem_map.mpr ⟨_, of_decide_eq_true h, rfl⟩))
  · obtain ⟨z, hz, hq⟩ := List.any_eq_true.mp h
    obtain ⟨e1, e2, e3⟩ := of_decide_eq_true hq
    refine Or.inr ⟨tb_cn z.2.2.2, hnw _ (List.mem_append_right _ (List.mem_map.mpr ⟨z, hz, ?_⟩))⟩
    simp only [e1, e2, e3]
theorem ck_met {M : Nat} (h : M < tb_nm) : (tb_y M).cls = tb_cn (tb_oc M) ∧ ((tb_y M).cls ≠ "java/lang/invoke/MethodHandle" ∧ (tb_y M).cls ≠ "java/lang/invoke/VarHandle" ∧ (parseMethodDescriptor (tb_y M).desc).map (fun d => d.parameters.length) = some (tb_np M)) ∧ tb_max M ≤ 41 ∧ ((tb_y M).name = "<init>" → tb_ret M = none) ∧ (tb_st M = true ∨ tb_oc M < tb_cl.length) ∧ plainName (tb_y M).cls = true := by
  have h1 := ck_m M h
  unfold ab_cm at h1
  simp only [Bool.and_eq_true, decide_eq_true_eq, Bool.or_eq_true, Bool.not_eq_true', decide_eq_false_iff_not] at h1
  obtain ⟨⟨⟨⟨⟨⟨⟨e1, e2⟩, e3⟩, e4⟩, e5⟩, e7⟩, e8⟩, -⟩ := h1
  exact ⟨e2, ⟨e3.1, e3.2, e4⟩, e5, fun q => e7.elim (fun z => absurd q z) id, e8, e1⟩
theorem ck_ini {M : Nat} (h : M < tb_nc) : Jvm.Cond.initialized (tb_y M).cls ∈ tb_ws := tb_in0 (List.mem_flatMap.mpr ⟨M, List.mem_range.mpr h, List.mem_cons_of_mem _ List.mem_cons_self⟩)
theorem ck_sta {M : Nat} (h : M < tb_nc) (hs : tb_st M = true) : Jvm.Cond.static (tb_y M) ∈ tb_ws := by
  refine tb_in0 (List.mem_flatMap.mpr ⟨M, List.mem_range.mpr h, List.mem_cons_of_mem _ (List.mem_cons_of_mem _ ?_)⟩)
  rw [if_pos hs]
  exact List.mem_cons_self
theorem ck_ins {M : Nat} (h : M < tb_nc) (hs : ¬ tb_st M = true) : Jvm.Cond.instanceMethod (tb_y M) ∈ tb_ws := by
  refine tb_in0 (List.mem_flatMap.mpr ⟨M, List.mem_range.mpr h, List.mem_cons_of_mem _ (List.mem_cons_of_mem _ ?_)⟩)
  rw [if_neg hs]
  split <;> exact List.mem_cons_self
theorem ck_sel {M : Nat} (h : M < tb_nc) (hs : ¬ tb_st M = true) (hn : (tb_y M).name ≠ "<init>") : Jvm.Cond.selects (tb_y M).cls (tb_y M) (tb_y M) ∈ tb_ws := by
  refine tb_in0 (List.mem_flatMap.mpr ⟨M, List.mem_range.mpr h, List.mem_cons_of_mem _ (List.mem_cons_of_mem _ ?_)⟩)
  rw [if_neg hs, if_neg hn]
  exact List.mem_cons_of_mem _ List.mem_cons_self
theorem so_call {X : Nat × (Nat → Int32)} {M M' r d' mc ms : Nat} {i : Instr} {as rest : List Value} {v : Option Value} {h1 : List va_E} (hC : ab_C X b sa p R s m args meth c D dA M) (hq : (pc, i, r) ∈ tb_il M) (hs : ab_x X r pc i L st h = some (.inr (.inl (M', as, rest)))) (hcok : ab_cok M' as rest = true) (hnL : nL = tb_max M)
    (hM : M' < tb_nc → Met l (tb_y M') (ab_ws M') (ab_R d' mc ms) (ab_Pc X b sa D dA as h) (ab_Qc b sa D dA v h1) mc ms (fun q => b ≤ q)) (hmc : mc = h1.length - h.length) (hms : ms = ab_sl tb_nf h1 - ab_sl tb_nf h) (hg : h.length ≤ h1.length ∧ ab_sl tb_nf h ≤ ab_sl tb_nf h1) (hR : d' + 2 ≤ R.frames ∧ 60 * d' + 84 ≤ R.locals) (hr : h1.length - n0 ≤ R.cells ∧ ab_sl tb_nf h1 - z0 ≤ R.slots) (k : ab_J p l e R s m args below meth c b sa D dA nL n0 z0 Q (pc + 3) (L) (v.toList ++ rest) (h1)) : ab_J p l e R s m args below meth c b sa D dA nL n0 z0 Q (pc) (L) (st) (h) := by
  intro H locs ls a1 a2 a3 a4 a5 a6
  obtain ⟨hM0, hx, hb, hml, hown, hts, hK, hnw, hao, hret, hlk, hnm, hfr, hlo, hX, hX1, hX2, hS9⟩ := hC
  have hok := ck_mem hM0 hq
  unfold ab_ok at hok
  rw [Bool.and_eq_true] at hok
  obtain ⟨hd0, hok⟩ := hok
  have hd := of_decide_eq_true hd0
  clear hd0
  dsimp only at hd hok
  unfold ab_cok at hcok
  simp only [Bool.and_eq_true, decide_eq_true_eq] at hcok
  have hsz : ls.size = tb_max M := by rw [a3.1, hnL]
  have hf : h.length - n0 + mc ≤ R.cells ∧ ab_sl tb_nf h - z0 + ms ≤ R.slots := by omega
  have hW : 2 * (F0 m pc ls (st.map (ab_v b sa))).monitorRoom + ((rest.map (ab_v b sa)).map fun v => v.category).sum ≤ 8 := by
    rw [ab_sum]
    show 2 * 0 + _ ≤ 8
    omega
  have hRm : ∀ r, tb_max r ≤ 41 → (ab_R d' mc ms).frames + 1 ≤ R.frames ∧ 8 + (tb_max r + 11) + (ab_R d' mc ms).locals ≤ R.locals := fun r h41 => ⟨by show d' + 1 + 1 ≤ _; omega, by show 8 + (tb_max r + 11) + (60 * d' + 24) ≤ _; omega⟩
  have hlen : ∀ (n : Nat) (x : Value) (y : List Value), st.drop n = x :: y → n ≤ st.length := by
    intro n x y hdrop
    rcases Nat.lt_or_ge st.length n with z | z
    · rw [List.drop_eq_nil_of_le (Nat.le_of_lt z)] at hdrop; cases hdrop
    · exact z
  have hAs : ∀ n, n ≤ st.length → (((st.take n).reverse).map (ab_v b sa)).length = n := fun n hn => by
    rw [List.length_map, List.length_reverse, List.length_take]; omega
  have hstk : ∀ (n a : Nat) (y : List Value), st.drop n = .ref a :: y → st.map (ab_v b sa) = (((st.take n).reverse).map (ab_v b sa)).reverse ++ .ref (b + a) :: y.map (ab_v b sa) := fun n a y hdrop => by
    rw [← List.map_reverse, List.reverse_reverse]
    conv => lhs; rw [← List.take_append_drop n st, hdrop, List.map_append]
    rfl
  cases i with
  | invokevirtual idx =>
    simp only [ab_x] at hs
    split at hs
    · cases hs
    next hst0 =>
    have h88 : ¬ r = 8888 := fun z => hst0 (Or.inl z)
    have hst : ¬ tb_st r = true := fun z => hst0 (Or.inr z)
    rw [Bool.or_eq_true] at hok
    replace hok := hok.resolve_left (fun z => h88 (of_decide_eq_true z))
    split at hs
    next a st9 hdrop =>
      split at hs
      next ci fs ha =>
        split at hs
        next hci =>
          cases hs
          rw [Bool.and_eq_true] at hok
          obtain ⟨hok, hok2⟩ := hok
          simp only [Bool.and_eq_true, decide_eq_true_eq] at hok
          obtain ⟨f1, f2, f3, f4, f5, f6⟩ := ck_met (Nat.lt_trans hok.1 ck_nc)
          have hM' := hM hok.1
          obtain ⟨C, T, N, hc, c1, -⟩ := ck_fld (ci := ci) (by rw [hci]; exact f5.resolve_left hst)
          have hrecv : ∃ cellB : Cell, H[b + a]? = some cellB ∧ cellB.vm.isStatics = false ∧ s.vm.findClass (tb_y M').cls = some cellB.cls := by
            have h9 := va_recv (q0 := 0) hK (ab_P.one a1 ha) hc rfl
            rw [f1, ← hci, ← c1]
            exact h9
          refine ab_back (av := (Value.ref (b + a) :: ((st.take (tb_np M')).reverse).map (ab_v b sa)).toArray) hmc hms hg a2 a3 a4 a5 a6 ?_ k
          rcases ab_mlink hok2 hts hnw with hl | ⟨host, hl⟩
          · exact va_runV (As := ((st.take (tb_np M')).reverse).map (ab_v b sa)) ⟨hx, hb, hml, hown, hts⟩ hM' ⟨callB_of (tb_np M') hts (ab_good M' hok.1) rfl rfl rfl (hts _ (ck_ini hok.1)) (hts _ hl) f2 (hRm M' f3), hts _ (ck_ins hok.1 hst), hts _ (ck_sel hok.1 hst hok.2)⟩ ⟨ab_blind _ _ _ _ _ _ _, hrecv, ab_pre hK hnw hao hX hX1 hX2 hS9 a2 a1 _⟩ rfl (hAs _ (hlen _ _ _ hdrop)) hsz (hstk _ _ _ hdrop) hW hd hf
          · exact va_runVN (As := ((st.take (tb_np M')).reverse).map (ab_v b sa)) ⟨hx, hb, hml, hown, hts⟩ hM' ⟨va_cnB (tb_np M') hts (ab_good M' hok.1) rfl rfl rfl hl (hts _ (ck_ini hok.1)) f2 (hRm M' f3), hts _ (ck_ins hok.1 hst), hts _ (ck_sel hok.1 hst hok.2)⟩ ⟨ab_blind _ _ _ _ _ _ _, hrecv, ab_pre hK hnw hao hX hX1 hX2 hS9 a2 a1 _⟩ rfl (hAs _ (hlen _ _ _ hdrop)) hsz (hstk _ _ _ hdrop) hW hd hf
        next => cases hs
      next => cases hs
    next a st9 hdrop =>
      split at hs
      next hci =>
        cases hs
        rw [Bool.and_eq_true] at hok
        obtain ⟨hok, hok2⟩ := hok
        simp only [Bool.and_eq_true, decide_eq_true_eq] at hok
        obtain ⟨f1, f2, f3, f4, f5, f6⟩ := ck_met (Nat.lt_trans hok.1 ck_nc)
        have hM' := hM hok.1
        have hrecv : ∃ cellB : Cell, H[sa a]? = some cellB ∧ cellB.vm.isStatics = false ∧ s.vm.findClass (tb_y M').cls = some cellB.cls := by
          have h9 := vk_recv hS9.1 hci.1 a2
          rw [f1, hci.2]
          exact h9
        have hstq : st.map (ab_v b sa) = (((st.take (tb_np M')).reverse).map (ab_v b sa)).reverse ++ .ref (sa a) :: rest.map (ab_v b sa) := by
          rw [← List.map_reverse, List.reverse_reverse]
          conv => lhs; rw [← List.take_append_drop (tb_np M') st, hdrop, List.map_append]
          rfl
        refine ab_back (av := (Value.ref (sa a) :: ((st.take (tb_np M')).reverse).map (ab_v b sa)).toArray) hmc hms hg a2 a3 a4 a5 a6 ?_ k
        rcases ab_mlink hok2 hts hnw with hl | ⟨host, hl⟩
        · exact va_runV (As := ((st.take (tb_np M')).reverse).map (ab_v b sa)) ⟨hx, hb, hml, hown, hts⟩ hM' ⟨callB_of (tb_np M') hts (ab_good M' hok.1) rfl rfl rfl (hts _ (ck_ini hok.1)) (hts _ hl) f2 (hRm M' f3), hts _ (ck_ins hok.1 hst), hts _ (ck_sel hok.1 hst hok.2)⟩ ⟨ab_blind _ _ _ _ _ _ _, hrecv, ab_pre hK hnw hao hX hX1 hX2 hS9 a2 a1 _⟩ rfl (hAs _ (hlen _ _ _ hdrop)) hsz hstq hW hd hf
        · exact va_runVN (As := ((st.take (tb_np M')).reverse).map (ab_v b sa)) ⟨hx, hb, hml, hown, hts⟩ hM' ⟨va_cnB (tb_np M') hts (ab_good M' hok.1) rfl rfl rfl hl (hts _ (ck_ini hok.1)) f2 (hRm M' f3), hts _ (ck_ins hok.1 hst), hts _ (ck_sel hok.1 hst hok.2)⟩ ⟨ab_blind _ _ _ _ _ _ _, hrecv, ab_pre hK hnw hao hX hX1 hX2 hS9 a2 a1 _⟩ rfl (hAs _ (hlen _ _ _ hdrop)) hsz hstq hW hd hf
      next => cases hs
    next => cases hs
  | invokespecial idx =>
    simp only [ab_x] at hs
    split at hs
    · split at hs
      · split at hs
        · cases hs
        · cases hs
      · cases hs
    next hr9 =>
    split at hs
    · cases hs
    next hst0 =>
    have h88 : ¬ r = 8888 := fun z => hst0 (Or.inl z)
    have hst : ¬ tb_st r = true := fun z => hst0 (Or.inr z)
    dsimp only at hok
    rw [if_neg hr9, Bool.or_eq_true] at hok
    replace hok := hok.resolve_left (fun z => h88 (of_decide_eq_true z))
    split at hs
    next a st9 hdrop =>
      cases hs
      rw [Bool.and_eq_true] at hok
      obtain ⟨hok, hok2⟩ := hok
      simp only [Bool.and_eq_true, decide_eq_true_eq] at hok
      obtain ⟨f1, f2, f3, f4, f5, f6⟩ := ck_met (Nat.lt_trans hok.1 ck_nc)
      have hM' := hM hok.1
      have hret0 := f4 hok.2
      have hw0 : ab_ws M' = Jvm.Cond.code (tb_y M') (tb_code M') (tb_max M') none :: tb_ws := by unfold ab_ws; rw [hret0]
      refine ab_back (av := (Value.ref (b + a) :: ((st.take (tb_np M')).reverse).map (ab_v b sa)).toArray) hmc hms hg a2 a3 a4 a5 a6 ?_ k
      rcases ab_mlink hok2 hts hnw with hl | ⟨host, hl⟩
      · exact va_runI (As := ((st.take (tb_np M')).reverse).map (ab_v b sa)) ⟨hx, hb, hml, hown, hts⟩ hM' ⟨callB_of (tb_np M') hts (ab_good M' hok.1) hw0 rfl rfl (hts _ (ck_ini hok.1)) (hts _ hl) f2 (hRm M' f3), hok.2, hts _ (ck_ins hok.1 hst)⟩ ⟨ab_blind _ _ _ _ _ _ _, ab_pre hK hnw hao hX hX1 hX2 hS9 a2 a1 _⟩ rfl (hAs _ (hlen _ _ _ hdrop)) hsz (hstk _ _ _ hdrop) hW hd hf
      · exact va_runIN (As := ((st.take (tb_np M')).reverse).map (ab_v b sa)) ⟨hx, hb, hml, hown, hts⟩ hM' ⟨va_cnB (tb_np M') hts (ab_good M' hok.1) hw0 rfl rfl hl (hts _ (ck_ini hok.1)) f2 (hRm M' f3), hok.2, hts _ (ck_ins hok.1 hst)⟩ ⟨ab_blind _ _ _ _ _ _ _, ab_pre hK hnw hao hX hX1 hX2 hS9 a2 a1 _⟩ rfl (hAs _ (hlen _ _ _ hdrop)) hsz (hstk _ _ _ hdrop) hW hd hf
    next => cases hs
  | invokestatic idx =>
    simp only [ab_x, ab_n] at hs
    split at hs
    next =>
      repeat' split at hs
      all_goals cases hs
    next hr6 =>
    dsimp only at hok
    split at hs
    next =>
      repeat' split at hs
      all_goals cases hs
    next hr5 =>
    rw [if_neg hr6, if_neg hr5] at hok
    split at hs
    next hg9 =>
      cases hs
      rw [Bool.or_eq_true] at hok
      replace hok := hok.resolve_left (fun z => hg9.1 (of_decide_eq_true z))
      rw [Bool.and_eq_true] at hok
      obtain ⟨hok, hok2⟩ := hok
      have hok1 := of_decide_eq_true hok
      obtain ⟨f1, f2, f3, f4, f5, f6⟩ := ck_met (Nat.lt_trans hok1 ck_nc)
      have hM' := hM hok1
      have hstS : st.map (ab_v b sa) = (((st.take (tb_np M')).reverse).map (ab_v b sa)).reverse ++ (st.drop (tb_np M')).map (ab_v b sa) := by
        rw [← List.map_reverse, List.reverse_reverse, ← List.map_append, List.take_append_drop]
      refine ab_back (av := (((st.take (tb_np M')).reverse).map (ab_v b sa)).toArray) hmc hms hg a2 a3 a4 a5 a6 ?_ k
      rcases ab_mlink hok2 hts hnw with hl | ⟨host, hl⟩
      · exact va_runS (As := ((st.take (tb_np M')).reverse).map (ab_v b sa)) ⟨hx, hb, hml, hown, hts⟩ hM' ⟨callB_of (tb_np M') hts (ab_good M' hok1) rfl rfl rfl (hts _ (ck_ini hok1)) (hts _ hl) f2 (hRm M' f3), hts _ (ck_sta hok1 hg9.2.1)⟩ ⟨ab_blind _ _ _ _ _ _ _, ab_pre hK hnw hao hX hX1 hX2 hS9 a2 a1 _⟩ rfl (hAs _ hg9.2.2) hsz hstS hW hd hf
      · exact va_runSN (As := ((st.take (tb_np M')).reverse).map (ab_v b sa)) ⟨hx, hb, hml, hown, hts⟩ hM' ⟨va_cnB (tb_np M') hts (ab_good M' hok1) rfl rfl rfl hl (hts _ (ck_ini hok1)) f2 (hRm M' f3), hts _ (ck_sta hok1 hg9.2.1), trivial⟩ ⟨ab_blind _ _ _ _ _ _ _, ab_pre hK hnw hao hX hX1 hX2 hS9 a2 a1 _⟩ rfl (hAs _ hg9.2.2) hsz hstS hW hd hf
    next => cases hs
  | _ =>
    simp only [ab_x, ab_n] at hs
    repeat' split at hs
    all_goals cases hs
theorem ab_set_le {nf : Nat → Nat} {i : Nat} {e e' : va_E} (hi : h[i]? = some e) (hz : ab_z nf e' = ab_z nf e) : h.length ≤ (h.set i e').length ∧ ab_sl nf h ≤ ab_sl nf (h.set i e') :=
  ⟨by rw [List.length_set]; exact Nat.le_refl _, by rw [ab_sl_set nf h i e e' hi hz]; exact Nat.le_refl _⟩
theorem ab_x_grow {X : Nat × (Nat → Int32)} {r : Nat} {i : Instr} {pc' : Nat} {L' : ab_Lo} {st' : List Value} {h1 : List va_E} (hs : ab_x X r pc i L st h = some (.inl (pc', L', st', h1))) : h.length ≤ h1.length ∧ ab_sl tb_nf h ≤ ab_sl tb_nf h1 := by
  cases i <;> simp only [ab_x, ab_n] at hs <;> (repeat' split at hs) <;> cases hs <;> first | exact ⟨Nat.le_refl _, Nat.le_refl _⟩ | (refine ⟨by rw [List.length_append]; omega, by rw [ab_sl_app]; omega⟩) | (refine ab_set_le (by assumption) ?_; rfl)
theorem ab_g_grow (X : Nat × (Nat → Int32)) : ∀ (n d M pc : Nat) (L : ab_Lo) (st : List Value) (h : List va_E) (v : Option Value) (h' : List va_E), ab_g X n d M pc L st h = some (v, h') → h.length ≤ h'.length ∧ ab_sl tb_nf h ≤ ab_sl tb_nf h' := by
  intro n
  induction n with
  | zero => intro d M pc L st h v h' hs; cases hs
  | succ n ih =>
    intro d M pc L st h v h' hs
    unfold ab_g at hs
    split at hs
    · cases hs
    · next pc' L' st' h1 hx =>
      unfold ab_s at hx
      split at hx
      · have g1 := ab_x_grow hx
        have g2 := ih _ _ _ _ _ _ _ _ hs
        omega
      · cases hx
    · split at hs
      · cases hs
      · split at hs
        · split at hs
          · cases hs
          · next v1 h1 hc =>
            have g1 := ih _ _ _ _ _ _ _ _ hc
            have g2 := ih _ _ _ _ _ _ _ _ hs
            omega
        · cases hs
    · split at hs
      · cases hs
        exact ⟨Nat.le_refl _, Nat.le_refl _⟩
      · cases hs
theorem so_ret {X : Nat × (Nat → Int32)} {M r mc ms : Nat} {i : Instr} {v : Option Value} (hC : ab_C X b sa p R s m args meth c D dA M) (hq : (pc, i, r) ∈ tb_il M) (hs : ab_x X r pc i L st h = some (.inr (.inr v))) (hrt : ab_rt M v = true) (hmc : mc = h.length - n0) (hms : ms = ab_sl tb_nf h - z0) (hQ : Q = MQ below (ab_Qc b sa D dA v h) args s mc ms (fun q => b ≤ q)) : ab_J p l e R s m args below meth c b sa D dA nL n0 z0 Q (pc) (L) (st) (h) := by
  intro H locs ls a1 a2 a3 a4 a5 a6
  obtain ⟨hM0, hx, hb, hml, hown, hts, hK, hnw, hao, hret, hlk, hnm, hfr, hlo, hX, hX1, hX2, hS9⟩ := hC
  have hok := ck_mem hM0 hq
  unfold ab_ok at hok
  rw [Bool.and_eq_true] at hok
  have hd := of_decide_eq_true hok.1
  dsimp only at hd
  subst hQ
  subst hmc
  subst hms
  have hQc : ∀ t : State, t.heap = H → s.WarmedH t.vm → ab_Qc b sa D dA v h args s (.returned (v.map (ab_v b sa))) t := fun t ht _ => ⟨rfl, by rw [ht]; exact a1, a2.F ht⟩
  unfold ab_rt at hrt
  cases i with
  | ireturn =>
    simp only [ab_x] at hs
    split at hs
    · next x =>
      cases hs
      cases hr2 : tb_ret M with
      | none => rw [hr2] at hrt; cases hrt
      | some ty =>
        rw [hr2] at hrt
        exact W.zret hx hb (by rw [hret, hr2]) (ab_f_ok (b := b) (sa := sa) hrt).1 hQc a2.2.2 hd hlk
    · cases hs
  | lreturn =>
    simp only [ab_x] at hs
    split at hs
    · next x =>
      cases hs
      cases hr2 : tb_ret M with
      | none => rw [hr2] at hrt; cases hrt
      | some ty =>
        rw [hr2] at hrt
        cases ty <;> first | (cases hrt; done) | exact W.lret hx hb (by rw [hret, hr2]) hQc a2.2.2 hd hlk
    · cases hs
  | areturn =>
    simp only [ab_x] at hs
    split at hs
    · next x =>
      cases hs
      cases hr2 : tb_ret M with
      | none => rw [hr2] at hrt; cases hrt
      | some ty =>
        rw [hr2] at hrt
        cases ty with
        | object C => exact W.aret hx hb (by rw [hret, hr2]) (Or.inl ⟨_, rfl⟩) (Or.inr ⟨_, rfl⟩) hQc a2.2.2 hd hlk
        | array q => exact W.aret hx hb (by rw [hret, hr2]) (Or.inr ⟨_, rfl⟩) (Or.inr ⟨_, rfl⟩) hQc a2.2.2 hd hlk
        | _ => cases hrt
    · cases hs
      cases hr2 : tb_ret M with
      | none => rw [hr2] at hrt; cases hrt
      | some ty =>
        rw [hr2] at hrt
        cases ty with
        | object C => exact W.aret hx hb (by rw [hret, hr2]) (Or.inl ⟨_, rfl⟩) (Or.inl rfl) hQc a2.2.2 hd hlk
        | array q => exact W.aret hx hb (by rw [hret, hr2]) (Or.inr ⟨_, rfl⟩) (Or.inl rfl) hQc a2.2.2 hd hlk
        | _ => cases hrt
    · next x =>
      cases hs
      cases hr2 : tb_ret M with
      | none => rw [hr2] at hrt; cases hrt
      | some ty =>
        rw [hr2] at hrt
        cases ty with
        | object C => exact W.aret hx hb (by rw [hret, hr2]) (Or.inl ⟨_, rfl⟩) (Or.inr ⟨_, rfl⟩) hQc a2.2.2 hd hlk
        | _ => cases hrt
    · cases hs
  | return_ =>
    simp only [ab_x] at hs
    split at hs
    · cases hs
      cases hr2 : tb_ret M with
      | none => exact W.vret hx hb (by rw [hret, hr2]) hQc a2.2.2 hd hlk
      | some ty => rw [hr2] at hrt; cases hrt
    · cases hs
  | _ =>
    simp only [ab_x, ab_n] at hs
    repeat' split at hs
    all_goals cases hs
end AB6
/-- a run of the pure machine, from any point of a method, is a run of the machine -/
def ab_T (X : Nat × (Nat → Int32)) (l : Launch) (n : Nat) : Prop := ∀ (d M pc : Nat) (L : ab_Lo) (st : List Value) (h : List va_E) (v : Option Value) (h' : List va_E), ab_g X n d M pc L st h = some (v, h') → ∀ (p : Program) (e : Env) (R : Room) (s : State) (m : MethodId) (args : Array Value) (below : List Frame) (meth : Method) (c : Code) (b : Nat) (sa : Nat → Nat) (D : va_G) (dA : Nat → ClassId) (n0 z0 : Nat) (Q : State → Prop), h'.length - n0 ≤ R.cells → ab_sl tb_nf h' - z0 ≤ R.slots → d + 1 ≤ R.frames → 60 * d + 24 ≤ R.locals → n0 ≤ h.length → z0 ≤ ab_sl tb_nf h → ab_C X b sa p R s m args meth c D dA M →
  (∀ (pc : Nat) (L : ab_Lo) (st : List Value) (i : Instr) (r : Nat), (pc, i, r) ∈ tb_il M → ab_x X r pc i L st h' = some (.inr (.inr v)) → ab_rt M v = true → ab_J p l e R s m args below meth c b sa D dA (tb_max M) n0 z0 Q pc L st h') →
  ab_J p l e R s m args below meth c b sa D dA (tb_max M) n0 z0 Q pc L st h
/-- .. and of a whole method -/
theorem ab_met {X : Nat × (Nat → Int32)} {l : Launch} {n : Nat} (hT : ab_T X l n) {d M : Nat} {as : List Value} {h : List va_E} {v : Option Value} {h' : List va_E} (hM : M < tb_nc) (hg : ab_g X n d M 0 (ab_en as ++ List.replicate (tb_max M - (ab_en as).length) none) [] h = some (v, h')) (hl : (ab_en as).length ≤ tb_max M) (b : Nat) (sa : Nat → Nat) (D : va_G) (dA : Nat → ClassId) :
    Met l (tb_y M) (ab_ws M) (ab_R d (h'.length - h.length) (ab_sl tb_nf h' - ab_sl tb_nf h)) (ab_Pc X b sa D dA as h) (ab_Qc b sa D dA v h') (h'.length - h.length) (ab_sl tb_nf h' - ab_sl tb_nf h) (fun q => b ≤ q) := by
  have hM9 : M < tb_nm := Nat.lt_trans hM ck_nc
  obtain ⟨f1, f2, f3, f4, f5, f6⟩ := ck_met hM9
  refine Met.ofW (cc := tb_code M) (maxL := tb_max M) (ret := tb_ret M) f6 rfl ?_
  intro p e s m args below meth c s1 B hml hv
  obtain ⟨rfl, hP, hK, hnw, hao, hX, hX1, hX2, hS9⟩ := hv
  have hts := atoms_spec (ws := ab_ws M) B.pre
  have hown : s.vm.findClass (tb_y M).cls = some m.cls := findClass_of_methodNamed B.named
  have hC : ab_C X b sa p (ab_R d (h'.length - h.length) (ab_sl tb_nf h' - ab_sl tb_nf h)) s m (as.map (ab_v b sa)).toArray meth c D dA M := ⟨hM9, B.exec, B.bytes, hml, by rw [← f1]; exact hown, fun w hw => hts w (List.mem_cons_of_mem _ hw), hK, hnw, hao, B.returns, B.notSynchronized, fun q => (name_of_methodNamed B.named B.method).1.trans q, by show 1 ≤ d + 1; omega, by show 20 ≤ 60 * d + 24; omega, hX, hX1, hX2, hS9⟩
  have hJ := hT d M 0 _ [] h v h' hg p e (ab_R d (h'.length - h.length) (ab_sl tb_nf h' - ab_sl tb_nf h)) s m (as.map (ab_v b sa)).toArray below meth c b sa D dA h.length (ab_sl tb_nf h) (MQ below (ab_Qc b sa D dA v h') (as.map (ab_v b sa)).toArray s (h'.length - h.length) (ab_sl tb_nf h' - ab_sl tb_nf h) (fun q => b ≤ q)) (Nat.le_refl _) (Nat.le_refl _) (Nat.le_refl _) (Nat.le_refl _) (Nat.le_refl _) (Nat.le_refl _) hC (fun pc L st i r hq hx hrt => so_ret hC hq hx hrt rfl rfl rfl)
  have h1 := hJ s.heap [] _ hP va_S.rf (ab_en_ok b sa as hl) (by rw [List.length_append, List.length_replicate]; omega) (Nat.le_refl _) (Nat.le_refl _)
  rw [Nat.sub_self, Nat.sub_self] at h1
  rw [lg_entry_eq]
  exact h1
theorem ab_all (X : Nat × (Nat → Int32)) (l : Launch) : ∀ n, ab_T X l n := by
  intro n
  induction n with
  | zero => intro d M pc L st h v h' hs; cases hs
  | succ n ih =>
    intro d M pc L st h v h' hs p e R s m args below meth c b sa D dA n0 z0 Q hmc hms hfr hlo hn hz hC hend
    unfold ab_g at hs
    split at hs
    · cases hs
    · next pc' L' st' h1 hx =>
      unfold ab_s at hx
      split at hx
      · next i r hk =>
        have g1 := ab_x_grow hx
        have g2 := ab_g_grow _ _ _ _ _ _ _ _ _ _ hs
        refine ab_x_ok hC (ab_k_mem _ _ _ _ hk) hx ⟨by omega, by omega⟩ ⟨hn, hz⟩ rfl ?_
        exact ih d M pc' L' st' h1 v h' hs p e R s m args below meth c b sa D dA n0 z0 Q hmc hms hfr hlo (by omega) (by omega) hC hend
      · cases hx
    · next M' as rest hx =>
      unfold ab_s at hx
      split at hx
      · next i r hk =>
        split at hs
        · cases hs
        · next d' =>
          split at hs
          · next hcok =>
            split at hs
            · cases hs
            · next v1 h1 hc =>
              have g1 := ab_g_grow _ _ _ _ _ _ _ _ _ _ hc
              have g2 := ab_g_grow _ _ _ _ _ _ _ _ _ _ hs
              have hcl : (ab_en as).length ≤ tb_max M' := by
                unfold ab_cok at hcok
                simp only [Bool.and_eq_true, decide_eq_true_eq] at hcok
                exact hcok.2
              refine so_call (d' := d') hC (ab_k_mem _ _ _ _ hk) hx hcok rfl (fun hM' => ab_met ih hM' hc hcl b sa D dA) rfl rfl g1 ⟨by omega, by omega⟩ ⟨by omega, by omega⟩ ?_
              exact ih (d' + 1) M (pc + 3) L _ h1 v h' hs p e R s m args below meth c b sa D dA n0 z0 Q hmc hms hfr hlo (by omega) (by omega) hC hend
          · cases hs
      · cases hx
    · next v1 hx =>
      unfold ab_s at hx
      split at hx
      · next i r hk =>
        split at hs
        · next hrt =>
          cases hs
          exact hend pc L st i r (ab_k_mem _ _ _ _ hk) hx hrt
        · cases hs
      · cases hx

