/-! the words of tables_1_5 at that start (all but the bytecodes, which 00m takes over) -/
set_option maxRecDepth 16384 in
theorem bd_w_5_0 : ((tables_1_5.drop 0).take 30).all bd_p = true := by decide +kernel
set_option maxRecDepth 16384 in
theorem bd_w_5_1 : ((tables_1_5.drop 30).take 30).all bd_p = true := by decide +kernel
set_option maxRecDepth 16384 in
theorem bd_w_5_2 : ((tables_1_5.drop 60).take 30).all bd_p = true := by decide +kernel
set_option maxRecDepth 16384 in
theorem bd_w_5_3 : ((tables_1_5.drop 90).take 30).all bd_p = true := by decide +kernel
set_option maxRecDepth 16384 in
theorem bd_w_5_4 : ((tables_1_5.drop 120).take 30).all bd_p = true := by decide +kernel
set_option maxRecDepth 16384 in
theorem bd_w_5_5 : ((tables_1_5.drop 150).take 30).all bd_p = true := by decide +kernel
set_option maxRecDepth 16384 in
theorem bd_w_5_6 : ((tables_1_5.drop 180).take 30).all bd_p = true := by decide +kernel
set_option maxRecDepth 16384 in
theorem bd_w_5_7 : ((tables_1_5.drop 210).take 30).all bd_p = true := by decide +kernel
set_option maxRecDepth 16384 in
theorem bd_e_5 : tables_1_5.drop 240 = [] := by rfl
theorem bd_a_5 : tables_1_5.all bd_p = true := (bd_split _ 0 30 tables_1_5 bd_w_5_0 (bd_split _ 30 30 tables_1_5 bd_w_5_1 (bd_split _ 60 30 tables_1_5 bd_w_5_2 (bd_split _ 90 30 tables_1_5 bd_w_5_3 (bd_split _ 120 30 tables_1_5 bd_w_5_4 (bd_split _ 150 30 tables_1_5 bd_w_5_5 (bd_split _ 180 30 tables_1_5 bd_w_5_6 (bd_split _ 210 30 tables_1_5 bd_w_5_7 (by rw [bd_e_5]; rfl)))))))))
