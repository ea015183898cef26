/-! the words of tables_1 at that start: those that part 00b takes over, or by evaluation -/
def bd_p (c : Jvm.Cond) : Bool := bd_easy start1.about c || c.before start1.args0 bd_s
theorem bd_split {α : Type} (p : α → Bool) (k n : Nat) (l : List α) (h1 : ((l.drop k).take n).all p = true) (h2 : (l.drop (k + n)).all p = true) : (l.drop k).all p = true := by
  have h : (l.drop k).take n ++ (l.drop k).drop n = l.drop k := List.take_append_drop n (l.drop k)
  rw [← h, List.all_append, h1, List.drop_drop, h2]; rfl
set_option maxRecDepth 16384 in
theorem bd_w_1_0 : ((tables_1_1.drop 0).take 40).all bd_p = true := by decide +kernel
set_option maxRecDepth 16384 in
theorem bd_w_1_1 : ((tables_1_1.drop 40).take 40).all bd_p = true := by decide +kernel
set_option maxRecDepth 16384 in
theorem bd_w_1_2 : ((tables_1_1.drop 80).take 40).all bd_p = true := by decide +kernel
set_option maxRecDepth 16384 in
theorem bd_w_1_3 : ((tables_1_1.drop 120).take 40).all bd_p = true := by decide +kernel
set_option maxRecDepth 16384 in
theorem bd_w_1_4 : ((tables_1_1.drop 160).take 40).all bd_p = true := by decide +kernel
set_option maxRecDepth 16384 in
theorem bd_w_1_5 : ((tables_1_1.drop 200).take 40).all bd_p = true := by decide +kernel
set_option maxRecDepth 16384 in
theorem bd_e_1 : tables_1_1.drop 240 = [] := by rfl
theorem bd_a_1 : tables_1_1.all bd_p = true := (bd_split _ 0 40 tables_1_1 bd_w_1_0 (bd_split _ 40 40 tables_1_1 bd_w_1_1 (bd_split _ 80 40 tables_1_1 bd_w_1_2 (bd_split _ 120 40 tables_1_1 bd_w_1_3 (bd_split _ 160 40 tables_1_1 bd_w_1_4 (bd_split _ 200 40 tables_1_1 bd_w_1_5 (by rw [bd_e_1]; rfl)))))))
set_option maxRecDepth 16384 in
theorem bd_w_2_0 : ((tables_1_2.drop 0).take 40).all bd_p = true := by decide +kernel
set_option maxRecDepth 16384 in
theorem bd_w_2_1 : ((tables_1_2.drop 40).take 40).all bd_p = true := by decide +kernel
set_option maxRecDepth 16384 in
theorem bd_w_2_2 : ((tables_1_2.drop 80).take 40).all bd_p = true := by decide +kernel
set_option maxRecDepth 16384 in
theorem bd_w_2_3 : ((tables_1_2.drop 120).take 40).all bd_p = true := by decide +kernel
set_option maxRecDepth 16384 in
theorem bd_w_2_4 : ((tables_1_2.drop 160).take 40).all bd_p = true := by decide +kernel
set_option maxRecDepth 16384 in
theorem bd_w_2_5 : ((tables_1_2.drop 200).take 40).all bd_p = true := by decide +kernel
set_option maxRecDepth 16384 in
theorem bd_e_2 : tables_1_2.drop 240 = [] := by rfl
theorem bd_a_2 : tables_1_2.all bd_p = true := (bd_split _ 0 40 tables_1_2 bd_w_2_0 (bd_split _ 40 40 tables_1_2 bd_w_2_1 (bd_split _ 80 40 tables_1_2 bd_w_2_2 (bd_split _ 120 40 tables_1_2 bd_w_2_3 (bd_split _ 160 40 tables_1_2 bd_w_2_4 (bd_split _ 200 40 tables_1_2 bd_w_2_5 (by rw [bd_e_2]; rfl)))))))
set_option maxRecDepth 16384 in
theorem bd_w_3_0 : ((tables_1_3.drop 0).take 40).all bd_p = true := by decide +kernel
set_option maxRecDepth 16384 in
theorem bd_w_3_1 : ((tables_1_3.drop 40).take 40).all bd_p = true := by decide +kernel
set_option maxRecDepth 16384 in
theorem bd_w_3_2 : ((tables_1_3.drop 80).take 40).all bd_p = true := by decide +kernel
set_option maxRecDepth 16384 in
theorem bd_w_3_3 : ((tables_1_3.drop 120).take 40).all bd_p = true := by decide +kernel
set_option maxRecDepth 16384 in
theorem bd_w_3_4 : ((tables_1_3.drop 160).take 40).all bd_p = true := by decide +kernel
set_option maxRecDepth 16384 in
theorem bd_w_3_5 : ((tables_1_3.drop 200).take 40).all bd_p = true := by decide +kernel
set_option maxRecDepth 16384 in
theorem bd_e_3 : tables_1_3.drop 240 = [] := by rfl
theorem bd_a_3 : tables_1_3.all bd_p = true := (bd_split _ 0 40 tables_1_3 bd_w_3_0 (bd_split _ 40 40 tables_1_3 bd_w_3_1 (bd_split _ 80 40 tables_1_3 bd_w_3_2 (bd_split _ 120 40 tables_1_3 bd_w_3_3 (bd_split _ 160 40 tables_1_3 bd_w_3_4 (bd_split _ 200 40 tables_1_3 bd_w_3_5 (by rw [bd_e_3]; rfl)))))))
set_option maxRecDepth 16384 in
theorem bd_w_4_0 : ((tables_1_4.drop 0).take 40).all bd_p = true := by decide +kernel
set_option maxRecDepth 16384 in
theorem bd_w_4_1 : ((tables_1_4.drop 40).take 40).all bd_p = true := by decide +kernel
set_option maxRecDepth 16384 in
theorem bd_w_4_2 : ((tables_1_4.drop 80).take 40).all bd_p = true := by decide +kernel
set_option maxRecDepth 16384 in
theorem bd_w_4_3 : ((tables_1_4.drop 120).take 40).all bd_p = true := by decide +kernel
set_option maxRecDepth 16384 in
theorem bd_w_4_4 : ((tables_1_4.drop 160).take 40).all bd_p = true := by decide +kernel
set_option maxRecDepth 16384 in
theorem bd_w_4_5 : ((tables_1_4.drop 200).take 40).all bd_p = true := by decide +kernel
set_option maxRecDepth 16384 in
theorem bd_e_4 : tables_1_4.drop 240 = [] := by rfl
theorem bd_a_4 : tables_1_4.all bd_p = true := (bd_split _ 0 40 tables_1_4 bd_w_4_0 (bd_split _ 40 40 tables_1_4 bd_w_4_1 (bd_split _ 80 40 tables_1_4 bd_w_4_2 (bd_split _ 120 40 tables_1_4 bd_w_4_3 (bd_split _ 160 40 tables_1_4 bd_w_4_4 (bd_split _ 200 40 tables_1_4 bd_w_4_5 (by rw [bd_e_4]; rfl)))))))
set_option maxRecDepth 16384 in
theorem bd_w_5_0 : ((tables_1_5.drop 0).take 40).all bd_p = true := by decide +kernel
set_option maxRecDepth 16384 in
theorem bd_w_5_1 : ((tables_1_5.drop 40).take 40).all bd_p = true := by decide +kernel
set_option maxRecDepth 16384 in
theorem bd_w_5_2 : ((tables_1_5.drop 80).take 40).all bd_p = true := by decide +kernel
set_option maxRecDepth 16384 in
theorem bd_w_5_3 : ((tables_1_5.drop 120).take 40).all bd_p = true := by decide +kernel
set_option maxRecDepth 16384 in
theorem bd_w_5_4 : ((tables_1_5.drop 160).take 40).all bd_p = true := by decide +kernel
set_option maxRecDepth 16384 in
theorem bd_w_5_5 : ((tables_1_5.drop 200).take 40).all bd_p = true := by decide +kernel
set_option maxRecDepth 16384 in
theorem bd_e_5 : tables_1_5.drop 240 = [] := by rfl
theorem bd_a_5 : tables_1_5.all bd_p = true := (bd_split _ 0 40 tables_1_5 bd_w_5_0 (bd_split _ 40 40 tables_1_5 bd_w_5_1 (bd_split _ 80 40 tables_1_5 bd_w_5_2 (bd_split _ 120 40 tables_1_5 bd_w_5_3 (bd_split _ 160 40 tables_1_5 bd_w_5_4 (bd_split _ 200 40 tables_1_5 bd_w_5_5 (by rw [bd_e_5]; rfl)))))))
set_option maxRecDepth 16384 in
theorem bd_w_6_0 : ((tables_1_6.drop 0).take 40).all bd_p = true := by decide +kernel
set_option maxRecDepth 16384 in
theorem bd_w_6_1 : ((tables_1_6.drop 40).take 40).all bd_p = true := by decide +kernel
set_option maxRecDepth 16384 in
theorem bd_w_6_2 : ((tables_1_6.drop 80).take 40).all bd_p = true := by decide +kernel
set_option maxRecDepth 16384 in
theorem bd_w_6_3 : ((tables_1_6.drop 120).take 40).all bd_p = true := by decide +kernel
set_option maxRecDepth 16384 in
theorem bd_w_6_4 : ((tables_1_6.drop 160).take 40).all bd_p = true := by decide +kernel
set_option maxRecDepth 16384 in
theorem bd_w_6_5 : ((tables_1_6.drop 200).take 40).all bd_p = true := by decide +kernel
set_option maxRecDepth 16384 in
theorem bd_e_6 : tables_1_6.drop 240 = [] := by rfl
theorem bd_a_6 : tables_1_6.all bd_p = true := (bd_split _ 0 40 tables_1_6 bd_w_6_0 (bd_split _ 40 40 tables_1_6 bd_w_6_1 (bd_split _ 80 40 tables_1_6 bd_w_6_2 (bd_split _ 120 40 tables_1_6 bd_w_6_3 (bd_split _ 160 40 tables_1_6 bd_w_6_4 (bd_split _ 200 40 tables_1_6 bd_w_6_5 (by rw [bd_e_6]; rfl)))))))
set_option maxRecDepth 16384 in
theorem bd_w_7_0 : ((tables_1_7.drop 0).take 40).all bd_p = true := by decide +kernel
set_option maxRecDepth 16384 in
theorem bd_w_7_1 : ((tables_1_7.drop 40).take 40).all bd_p = true := by decide +kernel
set_option maxRecDepth 16384 in
theorem bd_w_7_2 : ((tables_1_7.drop 80).take 40).all bd_p = true := by decide +kernel
set_option maxRecDepth 16384 in
theorem bd_w_7_3 : ((tables_1_7.drop 120).take 40).all bd_p = true := by decide +kernel
set_option maxRecDepth 16384 in
theorem bd_w_7_4 : ((tables_1_7.drop 160).take 40).all bd_p = true := by decide +kernel
set_option maxRecDepth 16384 in
theorem bd_w_7_5 : ((tables_1_7.drop 200).take 40).all bd_p = true := by decide +kernel
set_option maxRecDepth 16384 in
theorem bd_e_7 : tables_1_7.drop 240 = [] := by rfl
theorem bd_a_7 : tables_1_7.all bd_p = true := (bd_split _ 0 40 tables_1_7 bd_w_7_0 (bd_split _ 40 40 tables_1_7 bd_w_7_1 (bd_split _ 80 40 tables_1_7 bd_w_7_2 (bd_split _ 120 40 tables_1_7 bd_w_7_3 (bd_split _ 160 40 tables_1_7 bd_w_7_4 (bd_split _ 200 40 tables_1_7 bd_w_7_5 (by rw [bd_e_7]; rfl)))))))
set_option maxRecDepth 16384 in
theorem bd_w_8_0 : ((tables_1_8.drop 0).take 40).all bd_p = true := by decide +kernel
set_option maxRecDepth 16384 in
theorem bd_w_8_1 : ((tables_1_8.drop 40).take 40).all bd_p = true := by decide +kernel
set_option maxRecDepth 16384 in
theorem bd_w_8_2 : ((tables_1_8.drop 80).take 40).all bd_p = true := by decide +kernel
set_option maxRecDepth 16384 in
theorem bd_w_8_3 : ((tables_1_8.drop 120).take 40).all bd_p = true := by decide +kernel
set_option maxRecDepth 16384 in
theorem bd_w_8_4 : ((tables_1_8.drop 160).take 40).all bd_p = true := by decide +kernel
set_option maxRecDepth 16384 in
theorem bd_w_8_5 : ((tables_1_8.drop 200).take 40).all bd_p = true := by decide +kernel
set_option maxRecDepth 16384 in
theorem bd_e_8 : tables_1_8.drop 240 = [] := by rfl
theorem bd_a_8 : tables_1_8.all bd_p = true := (bd_split _ 0 40 tables_1_8 bd_w_8_0 (bd_split _ 40 40 tables_1_8 bd_w_8_1 (bd_split _ 80 40 tables_1_8 bd_w_8_2 (bd_split _ 120 40 tables_1_8 bd_w_8_3 (bd_split _ 160 40 tables_1_8 bd_w_8_4 (bd_split _ 200 40 tables_1_8 bd_w_8_5 (by rw [bd_e_8]; rfl)))))))
set_option maxRecDepth 16384 in
theorem bd_w_9_0 : ((tables_1_9.drop 0).take 40).all bd_p = true := by decide +kernel
set_option maxRecDepth 16384 in
theorem bd_w_9_1 : ((tables_1_9.drop 40).take 40).all bd_p = true := by decide +kernel
set_option maxRecDepth 16384 in
theorem bd_w_9_2 : ((tables_1_9.drop 80).take 40).all bd_p = true := by decide +kernel
set_option maxRecDepth 16384 in
theorem bd_w_9_3 : ((tables_1_9.drop 120).take 40).all bd_p = true := by decide +kernel
set_option maxRecDepth 16384 in
theorem bd_w_9_4 : ((tables_1_9.drop 160).take 40).all bd_p = true := by decide +kernel
set_option maxRecDepth 16384 in
theorem bd_w_9_5 : ((tables_1_9.drop 200).take 40).all bd_p = true := by decide +kernel
set_option maxRecDepth 16384 in
theorem bd_e_9 : tables_1_9.drop 240 = [] := by rfl
theorem bd_a_9 : tables_1_9.all bd_p = true := (bd_split _ 0 40 tables_1_9 bd_w_9_0 (bd_split _ 40 40 tables_1_9 bd_w_9_1 (bd_split _ 80 40 tables_1_9 bd_w_9_2 (bd_split _ 120 40 tables_1_9 bd_w_9_3 (bd_split _ 160 40 tables_1_9 bd_w_9_4 (bd_split _ 200 40 tables_1_9 bd_w_9_5 (by rw [bd_e_9]; rfl)))))))
set_option maxRecDepth 16384 in
theorem bd_w_10_0 : ((tables_1_10.drop 0).take 40).all bd_p = true := by decide +kernel
set_option maxRecDepth 16384 in
theorem bd_e_10 : tables_1_10.drop 40 = [] := by rfl
theorem bd_a_10 : tables_1_10.all bd_p = true := (bd_split _ 0 40 tables_1_10 bd_w_10_0 (by rw [bd_e_10]; rfl))
theorem bd_tab (c : Jvm.Cond) (h : c ∈ tables_1) : bd_p c = true := by
  have h1 : c ∈ tables_1_1 ++ (tables_1_2 ++ (tables_1_3 ++ (tables_1_4 ++ (tables_1_5 ++ (tables_1_6 ++ (tables_1_7 ++ (tables_1_8 ++ (tables_1_9 ++ (tables_1_10))))))))) := h
  simp only [List.mem_append] at h1
  rcases h1 with h | h | h | h | h | h | h | h | h | h
  · exact List.all_eq_true.mp bd_a_1 c h
  · exact List.all_eq_true.mp bd_a_2 c h
  · exact List.all_eq_true.mp bd_a_3 c h
  · exact List.all_eq_true.mp bd_a_4 c h
  · exact List.all_eq_true.mp bd_a_5 c h
  · exact List.all_eq_true.mp bd_a_6 c h
  · exact List.all_eq_true.mp bd_a_7 c h
  · exact List.all_eq_true.mp bd_a_8 c h
  · exact List.all_eq_true.mp bd_a_9 c h
  · exact List.all_eq_true.mp bd_a_10 c h
