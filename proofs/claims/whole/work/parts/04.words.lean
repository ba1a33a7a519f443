/-! THE PURE MACHINE: the words that its tables give, and what makes a table's row good. -/
/-- the words of a method -/
def tb_mw (M : Nat) : List Jvm.Cond := Jvm.Cond.code (tb_y M) (tb_code M) (tb_max M) (tb_ret M) :: Jvm.Cond.initialized (tb_y M).cls :: (if tb_st M = true then [Jvm.Cond.static (tb_y M)] else if (tb_y M).name = "<init>" then [Jvm.Cond.instanceMethod (tb_y M)] else [Jvm.Cond.instanceMethod (tb_y M), Jvm.Cond.selects (tb_y M).cls (tb_y M) (tb_y M)])
def tb_fc (q : Nat × Nat × Nat) : Jvm.Cond := match tb_cl[q.2.2 / 64]? with
  | some (C, T, _) => .fieldLink (tb_cn q.1) q.2.1 C (T (q.2.2 % 64)).2.1 (T (q.2.2 % 64)).2.2.1
  | none => .initialized (tb_cn q.1)
def tb_fd (q : Nat × Nat × Nat × Nat) : Jvm.Cond := match tb_cl[q.2.2.1 / 64]? with
  | some (C, T, _) => .fieldLinkNest (tb_cn q.1) q.2.1 C (T (q.2.2.1 % 64)).2.1 (T (q.2.2.1 % 64)).2.2.1 (tb_cn q.2.2.2)
  | none => .initialized (tb_cn q.1)
def tb_zc (q : Nat × Nat × Nat) : Jvm.Cond := match tb_zv[q.2.2]? with
  | some z => .fieldLink (tb_cn q.1) q.2.1 (tb_cn z.1) z.2.1 z.2.2.1
  | none => .initialized (tb_cn q.1)
/-- the class whose objects an array of references holds -/
def tb_an (t : Nat) : String := match tb_at[t]? with
  | some (.object C) => C
  | _ => ""
def tb_ws : List Jvm.Cond := ((List.range tb_nc).flatMap tb_mw) ++ ((tb_cl.flatMap (fun q => u_ws q.1 q.2.1 q.2.2)) ++ ((tb_cl.flatMap (fun q => [Jvm.Cond.instantiable q.1 q.2.2, Jvm.Cond.initialized q.1])) ++ ((tb_fl.map tb_fc) ++ ((tb_ml.map (fun q => Jvm.Cond.methodLink (tb_cn q.1) q.2.1 (tb_y q.2.2))) ++ ((tb_kw.map (fun q => Jvm.Cond.constant (tb_cn q.1) q.2.1 (tb_ki.getD q.2.2 0))) ++ ((tb_k2.map (fun q => Jvm.Cond.constantLong (tb_cn q.1) q.2.1 (tb_kl.getD q.2.2 0))) ++ ((tb_nl.map (fun q => Jvm.Cond.classLink (tb_cn q.1) q.2.1 (tb_cn q.2.2))) ++ ((tb_al.map (fun q => Jvm.Cond.classLink (tb_cn q.1) q.2.1 (tb_an q.2.2))) ++ ((tb_oi.map (fun q => Jvm.Cond.methodLink (tb_cn q.1) q.2 objectInit)) ++ (([Jvm.Cond.instanceMethod objectInit, Jvm.Cond.code objectInit ⟨#[0xb1]⟩ 1 none]) ++ ((tb_pa.map Jvm.Cond.arrayClass) ++ (tb_zl.map tb_zc))))))))))))
def tb_nw : List Jvm.Cond := tb_fn.map tb_fd ++ tb_mn.map (fun q => Jvm.Cond.methodLinkNest (tb_cn q.1) q.2.1 (tb_y q.2.2.1) (tb_cn q.2.2.2))
theorem tb_in0 {w : Jvm.Cond} (hw : w ∈ (List.range tb_nc).flatMap tb_mw) : w ∈ tb_ws := (List.mem_append_left _ hw)
theorem tb_in1 {w : Jvm.Cond} (hw : w ∈ tb_cl.flatMap (fun q => u_ws q.1 q.2.1 q.2.2)) : w ∈ tb_ws := (List.mem_append_right _ (List.mem_append_left _ hw))
theorem tb_in2 {w : Jvm.Cond} (hw : w ∈ tb_cl.flatMap (fun q => [Jvm.Cond.instantiable q.1 q.2.2, Jvm.Cond.initialized q.1])) : w ∈ tb_ws := (List.mem_append_right _ (List.mem_append_right _ (List.mem_append_left _ hw)))
theorem tb_in3 {w : Jvm.Cond} (hw : w ∈ tb_fl.map tb_fc) : w ∈ tb_ws := (List.mem_append_right _ (List.mem_append_right _ (List.mem_append_right _ (List.mem_append_left _ hw))))
theorem tb_in4 {w : Jvm.Cond} (hw : w ∈ tb_ml.map (fun q => Jvm.Cond.methodLink (tb_cn q.1) q.2.1 (tb_y q.2.2))) : w ∈ tb_ws := (List.mem_append_right _ (List.mem_append_right _ (List.mem_append_right _ (List.mem_append_right _ (List.mem_append_left _ hw)))))
theorem tb_in5 {w : Jvm.Cond} (hw : w ∈ tb_kw.map (fun q => Jvm.Cond.constant (tb_cn q.1) q.2.1 (tb_ki.getD q.2.2 0))) : w ∈ tb_ws := (List.mem_append_right _ (List.mem_append_right _ (List.mem_append_right _ (List.mem_append_right _ (List.mem_append_right _ (List.mem_append_left _ hw))))))
theorem tb_in6 {w : Jvm.Cond} (hw : w ∈ tb_k2.map (fun q => Jvm.Cond.constantLong (tb_cn q.1) q.2.1 (tb_kl.getD q.2.2 0))) : w ∈ tb_ws := (List.mem_append_right _ (List.mem_append_right _ (List.mem_append_right _ (List.mem_append_right _ (List.mem_append_right _ (List.mem_append_right _ (List.mem_append_left _ hw)))))))
theorem tb_in7 {w : Jvm.Cond} (hw : w ∈ tb_nl.map (fun q => Jvm.Cond.classLink (tb_cn q.1) q.2.1 (tb_cn q.2.2))) : w ∈ tb_ws := (List.mem_append_right _ (List.mem_append_right _ (List.mem_append_right _ (List.mem_append_right _ (List.mem_append_right _ (List.mem_append_right _ (List.mem_append_right _ (List.mem_append_left _ hw))))))))
theorem tb_in8 {w : Jvm.Cond} (hw : w ∈ tb_al.map (fun q => Jvm.Cond.classLink (tb_cn q.1) q.2.1 (tb_an q.2.2))) : w ∈ tb_ws := (List.mem_append_right _ (List.mem_append_right _ (List.mem_append_right _ (List.mem_append_right _ (List.mem_append_right _ (List.mem_append_right _ (List.mem_append_right _ (List.mem_append_right _ (List.mem_append_left _ hw)))))))))
theorem tb_in9 {w : Jvm.Cond} (hw : w ∈ tb_oi.map (fun q => Jvm.Cond.methodLink (tb_cn q.1) q.2 objectInit)) : w ∈ tb_ws := (List.mem_append_right _ (List.mem_append_right _ (List.mem_append_right _ (List.mem_append_right _ (List.mem_append_right _ (List.mem_append_right _ (List.mem_append_right _ (List.mem_append_right _ (List.mem_append_right _ (List.mem_append_left _ hw))))))))))
theorem tb_in10 {w : Jvm.Cond} (hw : w ∈ [Jvm.Cond.instanceMethod objectInit, Jvm.Cond.code objectInit ⟨#[0xb1]⟩ 1 none]) : w ∈ tb_ws := (List.mem_append_right _ (List.mem_append_right _ (List.mem_append_right _ (List.mem_append_right _ (List.mem_append_right _ (List.mem_append_right _ (List.mem_append_right _ (List.mem_append_right _ (List.mem_append_right _ (List.mem_append_right _ (List.mem_append_left _ hw)))))))))))
theorem tb_in11 {w : Jvm.Cond} (hw : w ∈ tb_pa.map Jvm.Cond.arrayClass) : w ∈ tb_ws := (List.mem_append_right _ (List.mem_append_right _ (List.mem_append_right _ (List.mem_append_right _ (List.mem_append_right _ (List.mem_append_right _ (List.mem_append_right _ (List.mem_append_right _ (List.mem_append_right _ (List.mem_append_right _ (List.mem_append_right _ (List.mem_append_left _ hw))))))))))))
theorem tb_in12 {w : Jvm.Cond} (hw : w ∈ tb_zl.map tb_zc) : w ∈ tb_ws := (List.mem_append_right _ (List.mem_append_right _ (List.mem_append_right _ (List.mem_append_right _ (List.mem_append_right _ (List.mem_append_right _ (List.mem_append_right _ (List.mem_append_right _ (List.mem_append_right _ (List.mem_append_right _ (List.mem_append_right _ (List.mem_append_right _ hw))))))))))))
def ab_lk (M idx r : Nat) : Bool := decide ((tb_oc M, idx, r) ∈ tb_fl)
def ab_ln (M idx r : Nat) : Bool := tb_fn.any (fun z => decide (z.1 = tb_oc M ∧ z.2.1 = idx ∧ z.2.2.1 = r))
def ab_ok (M : Nat) (q : Nat × Instr × Nat) : Bool := decide (decode (tb_code M) q.1 = .ok (q.2.1, ab_l2 q.2.1 q.2.2)) && (match q.2.1 with
  | .goto off => decide ((q.1 : Int) + off = (q.2.2 : Int))
  | .ifCond _ off => decide ((q.1 : Int) + off = (q.2.2 : Int))
  | .if_icmp _ off => decide ((q.1 : Int) + off = (q.2.2 : Int))
  | .if_acmp _ off => decide ((q.1 : Int) + off = (q.2.2 : Int))
  | .ifnull off => decide ((q.1 : Int) + off = (q.2.2 : Int))
  | .ifnonnull off => decide ((q.1 : Int) + off = (q.2.2 : Int))
  | .getfield idx => (ab_lk M idx q.2.2 || ab_ln M idx q.2.2) && decide (q.2.2 / 64 < tb_cl.length) && decide (q.2.2 % 64 < tb_nf (q.2.2 / 64))
  | .putfield idx => (ab_lk M idx q.2.2 || ab_ln M idx q.2.2) && decide (q.2.2 / 64 < tb_cl.length) && decide (q.2.2 % 64 < tb_nf (q.2.2 / 64)) && (if tb_fi (q.2.2 / 64) (q.2.2 % 64) = true then ab_lk M idx q.2.2 && decide (tb_oc M = q.2.2 / 64) && decide ((tb_y M).name = "<init>") else true)
  | .new idx => decide (q.2.2 = 8888) || (decide ((tb_oc M, idx, q.2.2) ∈ tb_nl) && decide (q.2.2 < tb_cl.length))
  | .anewarray idx => decide ((tb_oc M, idx, q.2.2) ∈ tb_al) && decide (tb_an q.2.2 ∈ tb_ao)
  | .newarray aty => decide (newarray.typeOf aty ∈ tb_pa)
  | .ldc idx => if 10000 ≤ q.2.2 then decide ((tb_oc M, idx, q.2.2 - 10000) ∈ tb_sr) else decide ((tb_oc M, idx, q.2.2) ∈ tb_kw)
  | .getstatic idx => decide ((tb_oc M, idx, q.2.2) ∈ tb_zl)
  | .ldc_w idx => decide ((tb_oc M, idx, q.2.2) ∈ tb_kw)
  | .ldc2_w idx => decide ((tb_oc M, idx, q.2.2) ∈ tb_k2)
  | .invokespecial idx => if q.2.2 = 9999 then decide ((tb_oc M, idx) ∈ tb_oi) else decide (q.2.2 = 8888) || (decide (q.2.2 < tb_nc) && decide ((tb_y q.2.2).name = "<init>") && (decide ((tb_oc M, idx, q.2.2) ∈ tb_ml) || tb_mn.any (fun z => decide (z.1 = tb_oc M ∧ z.2.1 = idx ∧ z.2.2.1 = q.2.2))))
  | .invokevirtual idx => decide (q.2.2 = 8888) || (decide (q.2.2 < tb_nc) && decide ((tb_y q.2.2).name ≠ "<init>") && (decide ((tb_oc M, idx, q.2.2) ∈ tb_ml) || tb_mn.any (fun z => decide (z.1 = tb_oc M ∧ z.2.1 = idx ∧ z.2.2.1 = q.2.2))))
  | .invokestatic idx => decide (q.2.2 = 8888) || (decide (q.2.2 < tb_nc) && (decide ((tb_oc M, idx, q.2.2) ∈ tb_ml) || tb_mn.any (fun z => decide (z.1 = tb_oc M ∧ z.2.1 = idx ∧ z.2.2.1 = q.2.2))))
  | _ => true)
/-- what makes a class's rows good -/
def ab_ck (ci : Nat) : Bool := match tb_cl[ci]? with
  | none => false
  | some (C, T, N) => decide (C = tb_cn ci) && decide (N = tb_nf ci) && (List.range N).all (fun k => decide ((T k).1 = C) && decide (parseFieldDescriptor (T k).2.2.1 = some (tb_ft ci k)) && decide ((T k).2.2.2 = tb_fi ci k)) && (List.range N).all (fun x => (List.range N).all (fun y => decide (x = y) || decide ((T x).2.1 ≠ (T y).2.1)))
/-- .. and a method's -/
def ab_cm (M : Nat) : Bool := plainName (tb_y M).cls && decide ((tb_y M).cls = tb_cn (tb_oc M)) && decide ((tb_y M).cls ≠ "java/lang/invoke/MethodHandle" ∧ (tb_y M).cls ≠ "java/lang/invoke/VarHandle") && decide ((parseMethodDescriptor (tb_y M).desc).map (fun d => d.parameters.length) = some (tb_np M)) && decide (tb_max M ≤ 41) && (!decide ((tb_y M).name = "<init>") || decide (tb_ret M = none)) && (tb_st M || decide (tb_oc M < tb_cl.length)) && (tb_il M).all (ab_ok M)
