/-! THE PURE SIDE: the law's run, for every script -/
theorem z_k : (mK (sN m00 13 0 (q_N 13)) 0 = 13 ∧ 0 < mN (sN m00 13 0 (q_N 13))) ∧ (mK (sN mA 14 0 (q_N 14)) 65 = 14 ∧ 65 < mN (sN mA 14 0 (q_N 14))) ∧ mN mA = 65 ∧ mN mB = 112 ∧ mN m00 = 0 := by decide +kernel
theorem oX1_X {X : p_X} (h : X 1 = X1 1) : oX1 X := by
  unfold oX1
  rw [h]
  exact ⟨rfl, fun _ _ => rfl⟩
theorem oX2_X {X : p_X} (h : X 2 = X1 2) : oX2 X := by
  unfold oX2
  rw [h]
  exact ⟨rfl, fun _ _ => rfl⟩
theorem W_go {X : p_X} {d : Nat} {Q : p_R → Prop} {O A B : p_M} {v w : Int32} (h0 : mN O = 0) (eA : F_X12_init X 0 (sN O 13 0 (q_N 13)) = some (v, A)) (eB : F_X13_init 65 (sN A 14 0 (q_N 14)) = some (w, B)) (ka : mK (sN O 13 0 (q_N 13)) 0 = 13 ∧ 0 < mN (sN O 13 0 (q_N 13))) (kb : mK (sN A 14 0 (q_N 14)) 65 = 14 ∧ 65 < mN (sN A 14 0 (q_N 14))) (kc : mN A = 65) (kd : mN B = 112) (K : p_Ev X (d + 16) M_L_law 23 (lwL 0 (.double 0) (.double 0)) [] (sN B 22 1 1) Q) : p_Ev X (d + 16) M_L_law 0 [.ref (p_E + 0), .double 0, .double 0, .double 0, .double 0, .double 0, .double 0] [] O Q := by
  refine e_new (v := 13) dL_law_0 rfl ?_
  rw [h0]
  refine e_dupR dL_law_3 ?_
  refine f_cPv (a := 0) (μ1 := A) dL_law_4 rfl rfl ⟨rfl, rfl⟩ rfl ka (fun Q' hQ' => E_X12_init eA hQ') ?_
  refine e_astore_n dL_law_7 (Nat.le_of_ble_eq_true rfl) rfl ?_
  refine e_new (v := 14) dL_law_8 rfl ?_
  rw [kc]
  refine e_dupR dL_law_11 ?_
  refine f_cPv (a := 65) (μ1 := B) dL_law_12 rfl rfl ⟨rfl, rfl⟩ rfl kb (fun Q' hQ' => E_X13_init eB hQ') ?_
  refine e_astore_n dL_law_15 (Nat.le_of_ble_eq_true rfl) rfl ?_
  refine e_iconst (v := 1) dL_law_16 rfl ?_
  refine e_newL dL_law_17 (by decide) ?_
  rw [kd]
  refine e_astore_n dL_law_19 (Nat.le_of_ble_eq_true rfl) rfl ?_
  refine e_iconst (v := 0) dL_law_20 rfl ?_
  exact e_istore dL_law_21 (Nat.le_of_ble_eq_true rfl) rfl K
theorem W_start {X : p_X} {d : Nat} {Q : p_R → Prop} (h1 : X 1 = X1 1) (h2 : X 2 = X1 2) (hn : (X 0).1 ≤ 4096) (hQ : ∀ μ', mC μ' ≤ 1000 + 5130 → mS μ' ≤ 100000 + 153900 → Q ((0, some (.int 1)), μ')) : p_Ev X (d + 16) M_L_law 0 [.ref (p_E + 0), .double 0, .double 0, .double 0, .double 0, .double 0, .double 0] [] m00 Q := by
  obtain ⟨v, ea⟩ := e_oA
  obtain ⟨w, eb⟩ := e_oB
  obtain ⟨ka, kb, kc, kd, k0⟩ := z_k
  have eA : F_X12_init X 0 (sN m00 13 0 (q_N 13)) = some (v, mA) := (F_X12_init_X h1 _ _).trans ea
  refine W_go k0 eA eb ka kb kc kd ?_
  have c := z_ct
  have L := W_loop (d := d) (Q := Q) (c0 := 1000) (s0 := 100000) (oX1_X h1) (oX2_X h2) rfl hn hQ 513 0 (.double 0) (.double 0) mZ rfl z_Core (by rw [c.1]; exact Nat.le_refl _) c.2.1 c.2.2.1
  exact L
