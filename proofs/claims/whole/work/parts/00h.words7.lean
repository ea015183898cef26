/-! the words of tables_1_7 at that start (all but the bytecodes, which 00m takes over) -/
set_option maxRecDepth 16384 in
theorem bd_w_7_0 : ((tables_1_7.drop 0).take 30).all bd_p = true := by decide +kernel
set_option maxRecDepth 16384 in
theorem bd_w_7_1 : ((tables_1_7.drop 30).take 30).all bd_p = true := by decide +kernel
set_option maxRecDepth 16384 in
theorem bd_w_7_2 : ((tables_1_7.drop 60).take 30).all bd_p = true := by decide +kernel
set_option maxRecDepth 16384 in
theorem bd_w_7_3 : ((tables_1_7.drop 90).take 30).all bd_p = true := by decide +kernel
set_option maxRecDepth 16384 in
theorem bd_w_7_4 : ((tables_1_7.drop 120).take 30).all bd_p = true := by decide +kernel
set_option maxRecDepth 16384 in
theorem bd_w_7_5 : ((tables_1_7.drop 150).take 30).all bd_p = true := by decide +kernel
set_option maxRecDepth 16384 in
theorem bd_w_7_6 : ((tables_1_7.drop 180).take 30).all bd_p = true := by decide +kernel
set_option maxRecDepth 16384 in
theorem bd_w_7_7 : ((tables_1_7.drop 210).take 30).all bd_p = true := by decide +kernel
set_option maxRecDepth 16384 in
theorem bd_e_7 : tables_1_7.drop 240 = [] := by rfl
theorem bd_a_7 : tables_1_7.all bd_p = true := (bd_split _ 0 30 tables_1_7 bd_w_7_0 (bd_split _ 30 30 tables_1_7 bd_w_7_1 (bd_split _ 60 30 tables_1_7 bd_w_7_2 (bd_split _ 90 30 tables_1_7 bd_w_7_3 (bd_split _ 120 30 tables_1_7 bd_w_7_4 (bd_split _ 150 30 tables_1_7 bd_w_7_5 (bd_split _ 180 30 tables_1_7 bd_w_7_6 (bd_split _ 210 30 tables_1_7 bd_w_7_7 (by rw [bd_e_7]; rfl)))))))))
