/-! THE CHECKS of the tables, by the kernel. -/
theorem ck_nc : tb_nc < tb_nm := by decide +kernel
theorem ck_cl : ∀ ci, ci < tb_cl.length → ab_ck ci = true := by decide +kernel
theorem ck_fn : ∀ z ∈ tb_fn, z.2.2.1 / 64 < tb_cl.length := by decide +kernel
theorem ck_sf : ∀ z ∈ tb_fn, z.2.2.1 / 64 ≠ tb_str := by decide +kernel
theorem ck_wb : tb_ws.all goodWord = true := by decide +kernel
theorem ck_ws : ∀ w ∈ tb_ws, ((w.onTables && w.keeps) = true ∨ ∃ ty, w = .arrayClass ty) := fun w hw => good_of_word (List.all_eq_true.mp ck_wb w hw)
