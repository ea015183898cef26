/-! the words of tables_1_10 at that start (all but the bytecodes, which 00m takes over) -/
set_option maxRecDepth 16384 in
theorem bd_w_10_0 : ((tables_1_10.drop 0).take 30).all bd_p = true := by decide +kernel
set_option maxRecDepth 16384 in
theorem bd_e_10 : tables_1_10.drop 30 = [] := by rfl
theorem bd_a_10 : tables_1_10.all bd_p = true := (bd_split _ 0 30 tables_1_10 bd_w_10_0 (by rw [bd_e_10]; rfl))
