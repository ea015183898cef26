/-! X12_count -/
def F_X12_count (v0 : Nat) (v1 : Int32) (μ : p_M) : Option (Int32 × p_M) :=
  if v1.toInt < 0 ∨ 18 < v1.toInt then (some ((-1), μ))
  else if v1 = 0 then (p_ok (mK μ v0 = 13 ∧ v0 < mN μ)
    (some ((mI μ v0 2), μ)))
  else if v1 = 1 then (p_ok (mK μ v0 = 13 ∧ v0 < mN μ)
    ((mR μ v0 3).bind fun q3 =>
    p_ok (mK μ q3 = 9 ∧ q3 < mN μ)
    (some ((mI μ q3 2), μ))))
  else if v1 = 2 then (p_ok (mK μ v0 = 13 ∧ v0 < mN μ)
    ((mR μ v0 9).bind fun q6 =>
    p_ok (mK μ q6 = 3 ∧ q6 < mN μ)
    (some ((mI μ q6 2), μ))))
  else if v1 = 3 then (p_ok (mK μ v0 = 13 ∧ v0 < mN μ)
    ((mR μ v0 10).bind fun q9 =>
    p_ok (mK μ q9 = 12 ∧ q9 < mN μ)
    (some ((mI μ q9 3), μ))))
  else if v1 = 4 then (p_ok (mK μ v0 = 13 ∧ v0 < mN μ)
    ((mR μ v0 10).bind fun q12 =>
    p_ok (mK μ q12 = 12 ∧ q12 < mN μ)
    (some ((mI μ q12 4), μ))))
  else if v1 = 5 then (p_ok (mK μ v0 = 13 ∧ v0 < mN μ)
    ((mR μ v0 10).bind fun q15 =>
    p_ok (mK μ q15 = 12 ∧ q15 < mN μ)
    (some ((mI μ q15 6), μ))))
  else if v1 = 6 then (p_ok (mK μ v0 = 13 ∧ v0 < mN μ)
    ((mR μ v0 10).bind fun q18 =>
    p_ok (mK μ q18 = 12 ∧ q18 < mN μ)
    ((F_X11_dirtInTanks q18 μ).bind fun q19 =>
    some (q19.1, q19.2))))
  else if v1 = 7 then (p_ok (mK μ v0 = 13 ∧ v0 < mN μ)
    ((mR μ v0 10).bind fun q22 =>
    p_ok (mK μ q22 = 12 ∧ q22 < mN μ)
    (some ((mI μ q22 7), μ))))
  else if v1 = 8 then (p_ok (mK μ v0 = 13 ∧ v0 < mN μ)
    ((mR μ v0 10).bind fun q25 =>
    p_ok (mK μ q25 = 12 ∧ q25 < mN μ)
    (some ((mI μ q25 8), μ))))
  else if v1 = 9 then (p_ok (mK μ v0 = 13 ∧ v0 < mN μ)
    ((mR μ v0 11).bind fun q28 =>
    p_ok (mK μ q28 = 1 ∧ q28 < mN μ)
    (some ((mI μ q28 1), μ))))
  else if v1 = 10 then (p_ok (mK μ v0 = 13 ∧ v0 < mN μ)
    (some ((mI μ v0 15), μ)))
  else if v1 = 11 then (p_ok (mK μ v0 = 13 ∧ v0 < mN μ)
    (some ((mI μ v0 13), μ)))
  else if v1 = 12 then (p_ok (mK μ v0 = 13 ∧ v0 < mN μ)
    ((mR μ v0 14).bind fun q33 =>
    p_ok (q33 < mN μ ∧ mK μ q33 = 0)
    (some ((mI μ q33 2), μ))))
  else if v1 = 13 then (p_ok (mK μ v0 = 13 ∧ v0 < mN μ)
    ((F_X12_countWashed v0 μ).bind fun q35 =>
    some (q35.1, q35.2)))
  else if v1 = 14 then (p_ok (mK μ v0 = 13 ∧ v0 < mN μ)
    ((mR μ v0 16).bind fun q38 =>
    p_ok (mK μ q38 = 7 ∧ q38 < mN μ)
    (some ((mI μ q38 3), μ))))
  else if v1 = 15 then (p_ok (mK μ v0 = 13 ∧ v0 < mN μ)
    ((mR μ v0 16).bind fun q41 =>
    p_ok (mK μ q41 = 7 ∧ q41 < mN μ)
    (some ((mI μ q41 4), μ))))
  else if v1 = 16 then (p_ok (mK μ v0 = 13 ∧ v0 < mN μ)
    (some ((mI μ v0 17), μ)))
  else if v1 = 17 then (p_ok (mK μ v0 = 13 ∧ v0 < mN μ)
    (some ((mI μ v0 18), μ)))
  else if v1 = 18 then (p_ok (mK μ v0 = 13 ∧ v0 < mN μ)
    ((mR μ v0 5).bind fun q46 =>
    p_ok (mK μ q46 = 2 ∧ q46 < mN μ)
    (some ((mI μ q46 1), μ))))
  else none
theorem E_X12_count {X : p_X} {d : Nat} {Q : p_R → Prop} {v0 : Nat} {v1 : Int32} {μ : p_M} {r : Int32 × p_M} (h : F_X12_count v0 v1 μ = some r) (hQ : Q ((0, some (.int r.1)), r.2)) : p_Ev X (d + 1) M_X12_count 0 [.ref v0, .int v1] [] μ Q := by
  unfold F_X12_count at h
  refine e_iload_n dX12_count_0 rfl ?_
  by_cases hc : v1.toInt < 0 ∨ 18 < v1.toInt
  · rw [if_pos hc] at h
    refine e_swD dX12_count_1 hc 226 (by decide) ?_
    refine e_iconst (v := (-1)) dX12_count_226 rfl ?_
    cases h
    exact e_ireti dX12_count_227 rfl hQ
  rw [if_neg hc] at h
  by_cases hc : v1 = 0
  · rw [if_pos hc] at h
    refine e_swK (v := 0) dX12_count_1 hc (by decide) rfl 92 (by decide) ?_
    refine e_aload_n dX12_count_92 rfl ?_
    obtain ⟨h1, h⟩ := p_ok_some h
    refine e_getI dX12_count_93 rfl rfl h1.1 h1.2 ?_
    cases h
    exact e_ireti dX12_count_96 rfl hQ
  rw [if_neg hc] at h
  by_cases hc : v1 = 1
  · rw [if_pos hc] at h
    refine e_swK (v := 1) dX12_count_1 hc (by decide) rfl 97 (by decide) ?_
    refine e_aload_n dX12_count_97 rfl ?_
    obtain ⟨h2, h⟩ := p_ok_some h
    obtain ⟨q3, hq3, h⟩ := p_bd h
    refine e_getR dX12_count_98 rfl rfl h2.1 h2.2 hq3 ?_
    obtain ⟨h4, h⟩ := p_ok_some h
    refine e_getI dX12_count_101 rfl rfl h4.1 h4.2 ?_
    cases h
    exact e_ireti dX12_count_104 rfl hQ
  rw [if_neg hc] at h
  by_cases hc : v1 = 2
  · rw [if_pos hc] at h
    refine e_swK (v := 2) dX12_count_1 hc (by decide) rfl 105 (by decide) ?_
    refine e_aload_n dX12_count_105 rfl ?_
    obtain ⟨h5, h⟩ := p_ok_some h
    obtain ⟨q6, hq6, h⟩ := p_bd h
    refine e_getR dX12_count_106 rfl rfl h5.1 h5.2 hq6 ?_
    obtain ⟨h7, h⟩ := p_ok_some h
    refine e_getI dX12_count_109 rfl rfl h7.1 h7.2 ?_
    cases h
    exact e_ireti dX12_count_112 rfl hQ
  rw [if_neg hc] at h
  by_cases hc : v1 = 3
  · rw [if_pos hc] at h
    refine e_swK (v := 3) dX12_count_1 hc (by decide) rfl 113 (by decide) ?_
    refine e_aload_n dX12_count_113 rfl ?_
    obtain ⟨h8, h⟩ := p_ok_some h
    obtain ⟨q9, hq9, h⟩ := p_bd h
    refine e_getR dX12_count_114 rfl rfl h8.1 h8.2 hq9 ?_
    obtain ⟨h10, h⟩ := p_ok_some h
    refine e_getI dX12_count_117 rfl rfl h10.1 h10.2 ?_
    cases h
    exact e_ireti dX12_count_120 rfl hQ
  rw [if_neg hc] at h
  by_cases hc : v1 = 4
  · rw [if_pos hc] at h
    refine e_swK (v := 4) dX12_count_1 hc (by decide) rfl 121 (by decide) ?_
    refine e_aload_n dX12_count_121 rfl ?_
    obtain ⟨h11, h⟩ := p_ok_some h
    obtain ⟨q12, hq12, h⟩ := p_bd h
    refine e_getR dX12_count_122 rfl rfl h11.1 h11.2 hq12 ?_
    obtain ⟨h13, h⟩ := p_ok_some h
    refine e_getI dX12_count_125 rfl rfl h13.1 h13.2 ?_
    cases h
    exact e_ireti dX12_count_128 rfl hQ
  rw [if_neg hc] at h
  by_cases hc : v1 = 5
  · rw [if_pos hc] at h
    refine e_swK (v := 5) dX12_count_1 hc (by decide) rfl 129 (by decide) ?_
    refine e_aload_n dX12_count_129 rfl ?_
    obtain ⟨h14, h⟩ := p_ok_some h
    obtain ⟨q15, hq15, h⟩ := p_bd h
    refine e_getR dX12_count_130 rfl rfl h14.1 h14.2 hq15 ?_
    obtain ⟨h16, h⟩ := p_ok_some h
    refine e_getI dX12_count_133 rfl rfl h16.1 h16.2 ?_
    cases h
    exact e_ireti dX12_count_136 rfl hQ
  rw [if_neg hc] at h
  by_cases hc : v1 = 6
  · rw [if_pos hc] at h
    refine e_swK (v := 6) dX12_count_1 hc (by decide) rfl 137 (by decide) ?_
    refine e_aload_n dX12_count_137 rfl ?_
    obtain ⟨h17, h⟩ := p_ok_some h
    obtain ⟨q18, hq18, h⟩ := p_bd h
    refine e_getR dX12_count_138 rfl rfl h17.1 h17.2 hq18 ?_
    obtain ⟨h20, h⟩ := p_ok_some h
    obtain ⟨q19, hq19, h⟩ := p_bd h
    refine f_cVi dX12_count_141 rfl rfl ⟨rfl, rfl, by decide⟩ rfl h20 (fun Q' hQ' => E_X11_dirtInTanks hq19 hQ') ?_
    cases h
    exact e_ireti dX12_count_144 rfl hQ
  rw [if_neg hc] at h
  by_cases hc : v1 = 7
  · rw [if_pos hc] at h
    refine e_swK (v := 7) dX12_count_1 hc (by decide) rfl 145 (by decide) ?_
    refine e_aload_n dX12_count_145 rfl ?_
    obtain ⟨h21, h⟩ := p_ok_some h
    obtain ⟨q22, hq22, h⟩ := p_bd h
    refine e_getR dX12_count_146 rfl rfl h21.1 h21.2 hq22 ?_
    obtain ⟨h23, h⟩ := p_ok_some h
    refine e_getI dX12_count_149 rfl rfl h23.1 h23.2 ?_
    cases h
    exact e_ireti dX12_count_152 rfl hQ
  rw [if_neg hc] at h
  by_cases hc : v1 = 8
  · rw [if_pos hc] at h
    refine e_swK (v := 8) dX12_count_1 hc (by decide) rfl 153 (by decide) ?_
    refine e_aload_n dX12_count_153 rfl ?_
    obtain ⟨h24, h⟩ := p_ok_some h
    obtain ⟨q25, hq25, h⟩ := p_bd h
    refine e_getR dX12_count_154 rfl rfl h24.1 h24.2 hq25 ?_
    obtain ⟨h26, h⟩ := p_ok_some h
    refine e_getI dX12_count_157 rfl rfl h26.1 h26.2 ?_
    cases h
    exact e_ireti dX12_count_160 rfl hQ
  rw [if_neg hc] at h
  by_cases hc : v1 = 9
  · rw [if_pos hc] at h
    refine e_swK (v := 9) dX12_count_1 hc (by decide) rfl 161 (by decide) ?_
    refine e_aload_n dX12_count_161 rfl ?_
    obtain ⟨h27, h⟩ := p_ok_some h
    obtain ⟨q28, hq28, h⟩ := p_bd h
    refine e_getR dX12_count_162 rfl rfl h27.1 h27.2 hq28 ?_
    obtain ⟨h29, h⟩ := p_ok_some h
    refine e_getI dX12_count_165 rfl rfl h29.1 h29.2 ?_
    cases h
    exact e_ireti dX12_count_168 rfl hQ
  rw [if_neg hc] at h
  by_cases hc : v1 = 10
  · rw [if_pos hc] at h
    refine e_swK (v := 10) dX12_count_1 hc (by decide) rfl 169 (by decide) ?_
    refine e_aload_n dX12_count_169 rfl ?_
    obtain ⟨h30, h⟩ := p_ok_some h
    refine e_getI dX12_count_170 rfl rfl h30.1 h30.2 ?_
    cases h
    exact e_ireti dX12_count_173 rfl hQ
  rw [if_neg hc] at h
  by_cases hc : v1 = 11
  · rw [if_pos hc] at h
    refine e_swK (v := 11) dX12_count_1 hc (by decide) rfl 174 (by decide) ?_
    refine e_aload_n dX12_count_174 rfl ?_
    obtain ⟨h31, h⟩ := p_ok_some h
    refine e_getI dX12_count_175 rfl rfl h31.1 h31.2 ?_
    cases h
    exact e_ireti dX12_count_178 rfl hQ
  rw [if_neg hc] at h
  by_cases hc : v1 = 12
  · rw [if_pos hc] at h
    refine e_swK (v := 12) dX12_count_1 hc (by decide) rfl 179 (by decide) ?_
    refine e_aload_n dX12_count_179 rfl ?_
    obtain ⟨h32, h⟩ := p_ok_some h
    obtain ⟨q33, hq33, h⟩ := p_bd h
    refine e_getR dX12_count_180 rfl rfl h32.1 h32.2 hq33 ?_
    obtain ⟨h34, h⟩ := p_ok_some h
    refine e_lsz dX12_count_183 rfl (Nat.le_of_ble_eq_true rfl) h34 ?_
    cases h
    exact e_ireti dX12_count_186 rfl hQ
  rw [if_neg hc] at h
  by_cases hc : v1 = 13
  · rw [if_pos hc] at h
    refine e_swK (v := 13) dX12_count_1 hc (by decide) rfl 187 (by decide) ?_
    refine e_aload_n dX12_count_187 rfl ?_
    obtain ⟨h36, h⟩ := p_ok_some h
    obtain ⟨q35, hq35, h⟩ := p_bd h
    refine f_cVi dX12_count_188 rfl rfl ⟨rfl, rfl, by decide⟩ rfl h36 (fun Q' hQ' => E_X12_countWashed hq35 hQ') ?_
    cases h
    exact e_ireti dX12_count_191 rfl hQ
  rw [if_neg hc] at h
  by_cases hc : v1 = 14
  · rw [if_pos hc] at h
    refine e_swK (v := 14) dX12_count_1 hc (by decide) rfl 192 (by decide) ?_
    refine e_aload_n dX12_count_192 rfl ?_
    obtain ⟨h37, h⟩ := p_ok_some h
    obtain ⟨q38, hq38, h⟩ := p_bd h
    refine e_getR dX12_count_193 rfl rfl h37.1 h37.2 hq38 ?_
    obtain ⟨h39, h⟩ := p_ok_some h
    refine e_getI dX12_count_196 rfl rfl h39.1 h39.2 ?_
    cases h
    exact e_ireti dX12_count_199 rfl hQ
  rw [if_neg hc] at h
  by_cases hc : v1 = 15
  · rw [if_pos hc] at h
    refine e_swK (v := 15) dX12_count_1 hc (by decide) rfl 200 (by decide) ?_
    refine e_aload_n dX12_count_200 rfl ?_
    obtain ⟨h40, h⟩ := p_ok_some h
    obtain ⟨q41, hq41, h⟩ := p_bd h
    refine e_getR dX12_count_201 rfl rfl h40.1 h40.2 hq41 ?_
    obtain ⟨h42, h⟩ := p_ok_some h
    refine e_getI dX12_count_204 rfl rfl h42.1 h42.2 ?_
    cases h
    exact e_ireti dX12_count_207 rfl hQ
  rw [if_neg hc] at h
  by_cases hc : v1 = 16
  · rw [if_pos hc] at h
    refine e_swK (v := 16) dX12_count_1 hc (by decide) rfl 208 (by decide) ?_
    refine e_aload_n dX12_count_208 rfl ?_
    obtain ⟨h43, h⟩ := p_ok_some h
    refine e_getI dX12_count_209 rfl rfl h43.1 h43.2 ?_
    cases h
    exact e_ireti dX12_count_212 rfl hQ
  rw [if_neg hc] at h
  by_cases hc : v1 = 17
  · rw [if_pos hc] at h
    refine e_swK (v := 17) dX12_count_1 hc (by decide) rfl 213 (by decide) ?_
    refine e_aload_n dX12_count_213 rfl ?_
    obtain ⟨h44, h⟩ := p_ok_some h
    refine e_getI dX12_count_214 rfl rfl h44.1 h44.2 ?_
    cases h
    exact e_ireti dX12_count_217 rfl hQ
  rw [if_neg hc] at h
  by_cases hc : v1 = 18
  · rw [if_pos hc] at h
    refine e_swK (v := 18) dX12_count_1 hc (by decide) rfl 218 (by decide) ?_
    refine e_aload_n dX12_count_218 rfl ?_
    obtain ⟨h45, h⟩ := p_ok_some h
    obtain ⟨q46, hq46, h⟩ := p_bd h
    refine e_getR dX12_count_219 rfl rfl h45.1 h45.2 hq46 ?_
    obtain ⟨h47, h⟩ := p_ok_some h
    refine e_getI dX12_count_222 rfl rfl h47.1 h47.2 ?_
    cases h
    exact e_ireti dX12_count_225 rfl hQ
  rw [if_neg hc] at h
  cases h
/-! X12_end -/
def F_X12_end (v0 : Nat) (v1 : Int32) (μ : p_M) : Option (Int32 × p_M) :=
  p_ok (mK μ v0 = 13 ∧ v0 < mN μ)
  ((mR μ v0 0).bind fun q2 =>
  p_ok (mK μ q2 = 11 ∧ q2 < mN μ)
  ((F_X12_within v1 (0 : Int32) (mI μ q2 1) μ).bind fun q4 =>
  if ¬ q4.1 = 0
  then (p_ok (mK q4.2 v0 = 13 ∧ v0 < mN q4.2)
    ((mR q4.2 v0 0).bind fun q6 =>
    p_ok (mK q4.2 q6 = 11 ∧ q6 < mN q4.2)
    (p_let (sI q4.2 q6 1 v1) fun m8 =>
    some ((1 : Int32), m8))))
  else (some ((0 : Int32), q4.2))))
theorem E_X12_end {X : p_X} {d : Nat} {Q : p_R → Prop} {v0 : Nat} {v1 : Int32} {μ : p_M} {r : Int32 × p_M} (h : F_X12_end v0 v1 μ = some r) (hQ : Q ((0, some (.int r.1)), r.2)) : p_Ev X (d + 1) M_X12_end 0 [.ref v0, .int v1] [] μ Q := by
  unfold F_X12_end at h
  refine e_iload_n dX12_end_0 rfl ?_
  refine e_iconst (v := (0 : Int32)) dX12_end_1 rfl ?_
  refine e_aload_n dX12_end_2 rfl ?_
  obtain ⟨h1, h⟩ := p_ok_some h
  obtain ⟨q2, hq2, h⟩ := p_bd h
  refine e_getR dX12_end_3 rfl rfl h1.1 h1.2 hq2 ?_
  obtain ⟨h3, h⟩ := p_ok_some h
  refine e_getI dX12_end_6 rfl rfl h3.1 h3.2 ?_
  obtain ⟨q4, hq4, h⟩ := p_bd h
  refine f_cSi dX12_end_9 rfl rfl rfl rfl (fun Q' hQ' => E_X12_within hq4 hQ') ?_
  refine e_if_ne dX12_end_12 17 (by decide) (fun hc => ?_) (fun hc => ?_)
  · rw [if_pos hc] at h
    refine e_aload_n dX12_end_17 rfl ?_
    obtain ⟨h5, h⟩ := p_ok_some h
    obtain ⟨q6, hq6, h⟩ := p_bd h
    refine e_getR dX12_end_18 rfl rfl h5.1 h5.2 hq6 ?_
    refine e_iload_n dX12_end_21 rfl ?_
    obtain ⟨h7, h⟩ := p_ok_some h
    replace h := p_lt h
    refine e_putI dX12_end_22 rfl ⟨rfl, rfl, (fun _ => rfl)⟩ (fun h => by cases h) h7.1 h7.2 ?_
    refine e_iconst (v := (1 : Int32)) dX12_end_25 rfl ?_
    cases h
    exact e_iretz dX12_end_26 rfl (by decide) hQ
  · rw [if_neg hc] at h
    refine e_iconst (v := (0 : Int32)) dX12_end_15 rfl ?_
    cases h
    exact e_iretz dX12_end_16 rfl (by decide) hQ
/-! X12_fault -/
def F_X12_fault (v0 : Nat) (μ : p_M) : Option (Int32 × p_M) :=
  p_ok (mK μ v0 = 13 ∧ v0 < mN μ)
  ((mR μ v0 0).bind fun q2 =>
  p_ok (mK μ q2 = 11 ∧ q2 < mN μ)
  (some ((mI μ q2 3), μ)))
theorem E_X12_fault {X : p_X} {d : Nat} {Q : p_R → Prop} {v0 : Nat} {μ : p_M} {r : Int32 × p_M} (h : F_X12_fault v0 μ = some r) (hQ : Q ((0, some (.int r.1)), r.2)) : p_Ev X (d + 0) M_X12_fault 0 [.ref v0] [] μ Q := by
  unfold F_X12_fault at h
  refine e_aload_n dX12_fault_0 rfl ?_
  obtain ⟨h1, h⟩ := p_ok_some h
  obtain ⟨q2, hq2, h⟩ := p_bd h
  refine e_getR dX12_fault_1 rfl rfl h1.1 h1.2 hq2 ?_
  obtain ⟨h3, h⟩ := p_ok_some h
  refine e_getI dX12_fault_4 rfl rfl h3.1 h3.2 ?_
  cases h
  exact e_ireti dX12_fault_7 rfl hQ
/-! X12_feed -/
def F_X12_feed (v0 : Nat) (v1 : Int32) (v2 : Int32) (v3 : Int32) (v4 : Int32) (v5 : Int32) (μ : p_M) : Option (Int32 × p_M) :=
  p_ok (mK μ v0 = 13 ∧ v0 < mN μ)
  ((mR μ v0 0).bind fun q2 =>
  p_ok (mK μ q2 = 11 ∧ q2 < mN μ)
  ((F_X10_hasRoom q2 μ).bind fun q3 =>
  if ¬ q3.1 = 0
  then (p_ok (mK q3.2 v0 = 13 ∧ v0 < mN q3.2)
    ((mR q3.2 v0 0).bind fun q6 =>
    p_ok (mK q3.2 q6 = 11 ∧ q6 < mN q3.2)
    ((F_X10_append q6 v1 q3.2).bind fun q7 =>
    p_ok (mK q7.2 v0 = 13 ∧ v0 < mN q7.2)
    ((mR q7.2 v0 0).bind fun q10 =>
    p_ok (mK q7.2 q10 = 11 ∧ q10 < mN q7.2)
    ((F_X10_append q10 v2 q7.2).bind fun q11 =>
    p_ok (mK q11.2 v0 = 13 ∧ v0 < mN q11.2)
    ((mR q11.2 v0 0).bind fun q14 =>
    p_ok (mK q11.2 q14 = 11 ∧ q14 < mN q11.2)
    ((F_X10_append q14 v3 q11.2).bind fun q15 =>
    p_ok (mK q15.2 v0 = 13 ∧ v0 < mN q15.2)
    ((mR q15.2 v0 0).bind fun q18 =>
    p_ok (mK q15.2 q18 = 11 ∧ q18 < mN q15.2)
    ((F_X10_append q18 v4 q15.2).bind fun q19 =>
    p_ok (mK q19.2 v0 = 13 ∧ v0 < mN q19.2)
    ((mR q19.2 v0 0).bind fun q22 =>
    p_ok (mK q19.2 q22 = 11 ∧ q22 < mN q19.2)
    ((F_X10_append q22 v5 q19.2).bind fun q23 =>
    p_ok (mK q23.2 v0 = 13 ∧ v0 < mN q23.2)
    ((mR q23.2 v0 0).bind fun q26 =>
    p_ok (mK q23.2 q26 = 11 ∧ q26 < mN q23.2)
    (some ((mI q23.2 q26 1), q23.2))))))))))))))
  else (some ((-1), q3.2))))
theorem E_X12_feed {X : p_X} {d : Nat} {Q : p_R → Prop} {v0 : Nat} {v1 : Int32} {v2 : Int32} {v3 : Int32} {v4 : Int32} {v5 : Int32} {μ : p_M} {r : Int32 × p_M} (h : F_X12_feed v0 v1 v2 v3 v4 v5 μ = some r) (hQ : Q ((0, some (.int r.1)), r.2)) : p_Ev X (d + 1) M_X12_feed 0 [.ref v0, .int v1, .int v2, .int v3, .int v4, .int v5] [] μ Q := by
  unfold F_X12_feed at h
  refine e_aload_n dX12_feed_0 rfl ?_
  obtain ⟨h1, h⟩ := p_ok_some h
  obtain ⟨q2, hq2, h⟩ := p_bd h
  refine e_getR dX12_feed_1 rfl rfl h1.1 h1.2 hq2 ?_
  obtain ⟨h4, h⟩ := p_ok_some h
  obtain ⟨q3, hq3, h⟩ := p_bd h
  refine f_cVi dX12_feed_4 rfl rfl ⟨rfl, rfl, by decide⟩ rfl h4 (fun Q' hQ' => E_X10_hasRoom hq3 hQ') ?_
  refine e_if_ne dX12_feed_7 12 (by decide) (fun hc => ?_) (fun hc => ?_)
  · rw [if_pos hc] at h
    refine e_aload_n dX12_feed_12 rfl ?_
    obtain ⟨h5, h⟩ := p_ok_some h
    obtain ⟨q6, hq6, h⟩ := p_bd h
    refine e_getR dX12_feed_13 rfl rfl h5.1 h5.2 hq6 ?_
    refine e_iload_n dX12_feed_16 rfl ?_
    obtain ⟨h8, h⟩ := p_ok_some h
    obtain ⟨q7, hq7, h⟩ := p_bd h
    refine f_cVv dX12_feed_17 rfl rfl ⟨rfl, rfl, by decide⟩ rfl h8 (fun Q' hQ' => E_X10_append hq7 hQ') ?_
    refine e_aload_n dX12_feed_20 rfl ?_
    obtain ⟨h9, h⟩ := p_ok_some h
    obtain ⟨q10, hq10, h⟩ := p_bd h
    refine e_getR dX12_feed_21 rfl rfl h9.1 h9.2 hq10 ?_
    refine e_iload_n dX12_feed_24 rfl ?_
    obtain ⟨h12, h⟩ := p_ok_some h
    obtain ⟨q11, hq11, h⟩ := p_bd h
    refine f_cVv dX12_feed_25 rfl rfl ⟨rfl, rfl, by decide⟩ rfl h12 (fun Q' hQ' => E_X10_append hq11 hQ') ?_
    refine e_aload_n dX12_feed_28 rfl ?_
    obtain ⟨h13, h⟩ := p_ok_some h
    obtain ⟨q14, hq14, h⟩ := p_bd h
    refine e_getR dX12_feed_29 rfl rfl h13.1 h13.2 hq14 ?_
    refine e_iload_n dX12_feed_32 rfl ?_
    obtain ⟨h16, h⟩ := p_ok_some h
    obtain ⟨q15, hq15, h⟩ := p_bd h
    refine f_cVv dX12_feed_33 rfl rfl ⟨rfl, rfl, by decide⟩ rfl h16 (fun Q' hQ' => E_X10_append hq15 hQ') ?_
    refine e_aload_n dX12_feed_36 rfl ?_
    obtain ⟨h17, h⟩ := p_ok_some h
    obtain ⟨q18, hq18, h⟩ := p_bd h
    refine e_getR dX12_feed_37 rfl rfl h17.1 h17.2 hq18 ?_
    refine e_iload dX12_feed_40 rfl ?_
    obtain ⟨h20, h⟩ := p_ok_some h
    obtain ⟨q19, hq19, h⟩ := p_bd h
    refine f_cVv dX12_feed_42 rfl rfl ⟨rfl, rfl, by decide⟩ rfl h20 (fun Q' hQ' => E_X10_append hq19 hQ') ?_
    refine e_aload_n dX12_feed_45 rfl ?_
    obtain ⟨h21, h⟩ := p_ok_some h
    obtain ⟨q22, hq22, h⟩ := p_bd h
    refine e_getR dX12_feed_46 rfl rfl h21.1 h21.2 hq22 ?_
    refine e_iload dX12_feed_49 rfl ?_
    obtain ⟨h24, h⟩ := p_ok_some h
    obtain ⟨q23, hq23, h⟩ := p_bd h
    refine f_cVv dX12_feed_51 rfl rfl ⟨rfl, rfl, by decide⟩ rfl h24 (fun Q' hQ' => E_X10_append hq23 hQ') ?_
    refine e_aload_n dX12_feed_54 rfl ?_
    obtain ⟨h25, h⟩ := p_ok_some h
    obtain ⟨q26, hq26, h⟩ := p_bd h
    refine e_getR dX12_feed_55 rfl rfl h25.1 h25.2 hq26 ?_
    obtain ⟨h27, h⟩ := p_ok_some h
    refine e_getI dX12_feed_58 rfl rfl h27.1 h27.2 ?_
    cases h
    exact e_ireti dX12_feed_61 rfl hQ
  · rw [if_neg hc] at h
    refine e_iconst (v := (-1)) dX12_feed_10 rfl ?_
    cases h
    exact e_ireti dX12_feed_11 rfl hQ
/-! X1_init -/
def F_X1_init (X : p_X) (v0 : Nat) (μ : p_M) : Option (Int32 × p_M) :=
  p_ok (v0 < mN μ ∧ mK μ v0 < 15)
  (p_let (s_cln X μ) fun m2 =>
  p_ok (mK m2 (mN μ) = 20 ∧ (mN μ) < mN m2)
  (p_ok (mK m2 v0 = 2 ∧ v0 < mN m2)
  (p_let (sR m2 v0 0 (some (mN μ))) fun m5 =>
  some (0, m5))))
theorem E_X1_init {X : p_X} {d : Nat} {Q : p_R → Prop} {v0 : Nat} {μ : p_M} {r : Int32 × p_M} (h : F_X1_init X v0 μ = some r) (hQ : Q ((0, none), r.2)) : p_Ev X (d + 0) M_X1_init 0 [.ref v0] [] μ Q := by
  unfold F_X1_init at h
  refine e_aload_n dX1_init_0 rfl ?_
  obtain ⟨h1, h⟩ := p_ok_some h
  refine e_oinit dX1_init_1 rfl (Nat.le_of_ble_eq_true rfl) h1 ?_
  refine e_aload_n dX1_init_4 rfl ?_
  refine e_getst dX1_init_5 rfl ?_
  replace h := p_lt h
  refine e_cln dX1_init_8 rfl (Nat.le_of_ble_eq_true rfl) ?_
  obtain ⟨h3, h⟩ := p_ok_some h
  refine e_cast dX1_init_11 (Or.inl ⟨rfl, rfl, h3⟩) ?_
  obtain ⟨h4, h⟩ := p_ok_some h
  replace h := p_lt h
  refine e_putR dX1_init_14 rfl ⟨rfl, (by decide +kernel), (fun h => by cases h)⟩ h4 ?_
  cases h
  exact e_vret dX1_init_17 rfl hQ
/-! X2_init -/
def F_X2_init (v0 : Nat) (μ : p_M) : Option (Int32 × p_M) :=
  p_ok (v0 < mN μ ∧ mK μ v0 < 15)
  (p_ok (¬ ((36 : Int32) < 0 ∨ 100000 < (36 : Int32).toNatClampNeg))
  (p_let (sN μ 20 (36 : Int32).toNatClampNeg (36 : Int32).toNatClampNeg) fun m3 =>
  p_ok (mK m3 v0 = 3 ∧ v0 < mN m3)
  (p_let (sR m3 v0 0 (some (mN μ))) fun m5 =>
  p_ok (¬ ((9 : Int32) < 0 ∨ 100000 < (9 : Int32).toNatClampNeg))
  (p_let (sN m5 20 (9 : Int32).toNatClampNeg (9 : Int32).toNatClampNeg) fun m7 =>
  p_ok (mK m7 v0 = 3 ∧ v0 < mN m7)
  (p_let (sR m7 v0 1 (some (mN m5))) fun m9 =>
  p_ok (¬ ((4608 : Int32) < 0 ∨ 100000 < (4608 : Int32).toNatClampNeg))
  (p_let (sN m9 20 (4608 : Int32).toNatClampNeg (4608 : Int32).toNatClampNeg) fun m11 =>
  p_ok (mK m11 v0 = 3 ∧ v0 < mN m11)
  (p_let (sR m11 v0 3 (some (mN m9))) fun m13 =>
  some (0, m13))))))))
theorem E_X2_init {X : p_X} {d : Nat} {Q : p_R → Prop} {v0 : Nat} {μ : p_M} {r : Int32 × p_M} (h : F_X2_init v0 μ = some r) (hQ : Q ((0, none), r.2)) : p_Ev X (d + 0) M_X2_init 0 [.ref v0] [] μ Q := by
  unfold F_X2_init at h
  refine e_aload_n dX2_init_0 rfl ?_
  obtain ⟨h1, h⟩ := p_ok_some h
  refine e_oinit dX2_init_1 rfl (Nat.le_of_ble_eq_true rfl) h1 ?_
  refine e_aload_n dX2_init_4 rfl ?_
  refine e_bipush (v := (36 : Int32)) dX2_init_5 rfl ?_
  obtain ⟨h2, h⟩ := p_ok_some h
  replace h := p_lt h
  refine e_newI dX2_init_7 h2 ?_
  obtain ⟨h4, h⟩ := p_ok_some h
  replace h := p_lt h
  refine e_putR dX2_init_9 rfl ⟨rfl, (by decide +kernel), (fun h => by cases h)⟩ h4 ?_
  refine e_aload_n dX2_init_12 rfl ?_
  refine e_bipush (v := (9 : Int32)) dX2_init_13 rfl ?_
  obtain ⟨h6, h⟩ := p_ok_some h
  replace h := p_lt h
  refine e_newI dX2_init_15 h6 ?_
  obtain ⟨h8, h⟩ := p_ok_some h
  replace h := p_lt h
  refine e_putR dX2_init_17 rfl ⟨rfl, (by decide +kernel), (fun h => by cases h)⟩ h8 ?_
  refine e_aload_n dX2_init_20 rfl ?_
  refine e_sipush (v := (4608 : Int32)) dX2_init_21 rfl ?_
  obtain ⟨h10, h⟩ := p_ok_some h
  replace h := p_lt h
  refine e_newI dX2_init_24 h10 ?_
  obtain ⟨h12, h⟩ := p_ok_some h
  replace h := p_lt h
  refine e_putR dX2_init_26 rfl ⟨rfl, (by decide +kernel), (fun h => by cases h)⟩ h12 ?_
  cases h
  exact e_vret dX2_init_29 rfl hQ
/-! X5_init -/
def F_X5_init (v0 : Nat) (μ : p_M) : Option (Int32 × p_M) :=
  p_ok (v0 < mN μ ∧ mK μ v0 < 15)
  (p_ok (¬ ((40 : Int32) < 0 ∨ 100000 < (40 : Int32).toNatClampNeg))
  (p_let (sN μ 20 (40 : Int32).toNatClampNeg (40 : Int32).toNatClampNeg) fun m3 =>
  p_ok (mK m3 v0 = 6 ∧ v0 < mN m3)
  (p_let (sR m3 v0 1 (some (mN μ))) fun m5 =>
  p_let (sI m5 v0 3 (-1)) fun m6 =>
  p_let (sI m6 v0 4 (-1)) fun m7 =>
  some (0, m7))))
theorem E_X5_init {X : p_X} {d : Nat} {Q : p_R → Prop} {v0 : Nat} {μ : p_M} {r : Int32 × p_M} (h : F_X5_init v0 μ = some r) (hQ : Q ((0, none), r.2)) : p_Ev X (d + 0) M_X5_init 0 [.ref v0] [] μ Q := by
  unfold F_X5_init at h
  refine e_aload_n dX5_init_0 rfl ?_
  obtain ⟨h1, h⟩ := p_ok_some h
  refine e_oinit dX5_init_1 rfl (Nat.le_of_ble_eq_true rfl) h1 ?_
  refine e_aload_n dX5_init_4 rfl ?_
  refine e_bipush (v := (40 : Int32)) dX5_init_5 rfl ?_
  obtain ⟨h2, h⟩ := p_ok_some h
  replace h := p_lt h
  refine e_newI dX5_init_7 h2 ?_
  obtain ⟨h4, h⟩ := p_ok_some h
  replace h := p_lt h
  refine e_putR dX5_init_9 rfl ⟨rfl, (by decide +kernel), (fun h => by cases h)⟩ h4 ?_
  refine e_aload_n dX5_init_12 rfl ?_
  refine e_iconst (v := (-1)) dX5_init_13 rfl ?_
  replace h := p_lt h
  refine e_putI dX5_init_14 rfl ⟨rfl, (by decide +kernel), (fun h => by cases h)⟩ (fun h => by cases h) h4.1 h4.2 ?_
  refine e_aload_n dX5_init_17 rfl ?_
  refine e_iconst (v := (-1)) dX5_init_18 rfl ?_
  replace h := p_lt h
  refine e_putI dX5_init_19 rfl ⟨rfl, (by decide +kernel), (fun h => by cases h)⟩ (fun h => by cases h) h4.1 h4.2 ?_
  cases h
  exact e_vret dX5_init_22 rfl hQ
/-! X6_init -/
def F_X6_init (v0 : Nat) (μ : p_M) : Option (Int32 × p_M) :=
  p_ok (v0 < mN μ ∧ mK μ v0 < 15)
  (p_ok (¬ ((250 : Int32) < 0 ∨ 100000 < (250 : Int32).toNatClampNeg))
  (p_let (sN μ 20 (250 : Int32).toNatClampNeg (250 : Int32).toNatClampNeg) fun m3 =>
  p_ok (mK m3 v0 = 7 ∧ v0 < mN m3)
  (p_let (sR m3 v0 0 (some (mN μ))) fun m5 =>
  p_ok (¬ ((250 : Int32) < 0 ∨ 100000 < (250 : Int32).toNatClampNeg))
  (p_let (sN m5 20 (250 : Int32).toNatClampNeg (250 : Int32).toNatClampNeg) fun m7 =>
  p_ok (mK m7 v0 = 7 ∧ v0 < mN m7)
  (p_let (sR m7 v0 1 (some (mN m5))) fun m9 =>
  p_ok (¬ ((250 : Int32) < 0 ∨ 100000 < (250 : Int32).toNatClampNeg))
  (p_let (sN m9 20 (250 : Int32).toNatClampNeg (250 : Int32).toNatClampNeg) fun m11 =>
  p_ok (mK m11 v0 = 7 ∧ v0 < mN m11)
  (p_let (sR m11 v0 2 (some (mN m9))) fun m13 =>
  p_ok (¬ ((250 : Int32) < 0 ∨ 100000 < (250 : Int32).toNatClampNeg))
  (p_let (sN m13 20 (250 : Int32).toNatClampNeg (250 : Int32).toNatClampNeg) fun m15 =>
  p_ok (mK m15 v0 = 7 ∧ v0 < mN m15)
  (p_let (sR m15 v0 5 (some (mN m13))) fun m17 =>
  p_ok (¬ ((250 : Int32) < 0 ∨ 100000 < (250 : Int32).toNatClampNeg))
  (p_let (sN m17 20 (250 : Int32).toNatClampNeg (250 : Int32).toNatClampNeg) fun m19 =>
  p_ok (mK m19 v0 = 7 ∧ v0 < mN m19)
  (p_let (sR m19 v0 6 (some (mN m17))) fun m21 =>
  p_ok (¬ ((250 : Int32) < 0 ∨ 100000 < (250 : Int32).toNatClampNeg))
  (p_let (sN m21 20 (250 : Int32).toNatClampNeg (250 : Int32).toNatClampNeg) fun m23 =>
  p_ok (mK m23 v0 = 7 ∧ v0 < mN m23)
  (p_let (sR m23 v0 7 (some (mN m21))) fun m25 =>
  p_ok (¬ ((257 : Int32) < 0 ∨ 100000 < (257 : Int32).toNatClampNeg))
  (p_let (sN m25 20 (257 : Int32).toNatClampNeg (257 : Int32).toNatClampNeg) fun m27 =>
  p_ok (mK m27 v0 = 7 ∧ v0 < mN m27)
  (p_let (sR m27 v0 8 (some (mN m25))) fun m29 =>
  some (0, m29))))))))))))))))
theorem E_X6_init {X : p_X} {d : Nat} {Q : p_R → Prop} {v0 : Nat} {μ : p_M} {r : Int32 × p_M} (h : F_X6_init v0 μ = some r) (hQ : Q ((0, none), r.2)) : p_Ev X (d + 0) M_X6_init 0 [.ref v0] [] μ Q := by
  unfold F_X6_init at h
  refine e_aload_n dX6_init_0 rfl ?_
  obtain ⟨h1, h⟩ := p_ok_some h
  refine e_oinit dX6_init_1 rfl (Nat.le_of_ble_eq_true rfl) h1 ?_
  refine e_aload_n dX6_init_4 rfl ?_
  refine e_sipush (v := (250 : Int32)) dX6_init_5 rfl ?_
  obtain ⟨h2, h⟩ := p_ok_some h
  replace h := p_lt h
  refine e_newI dX6_init_8 h2 ?_
  obtain ⟨h4, h⟩ := p_ok_some h
  replace h := p_lt h
  refine e_putR dX6_init_10 rfl ⟨rfl, (by decide +kernel), (fun h => by cases h)⟩ h4 ?_
  refine e_aload_n dX6_init_13 rfl ?_
  refine e_sipush (v := (250 : Int32)) dX6_init_14 rfl ?_
  obtain ⟨h6, h⟩ := p_ok_some h
  replace h := p_lt h
  refine e_newI dX6_init_17 h6 ?_
  obtain ⟨h8, h⟩ := p_ok_some h
  replace h := p_lt h
  refine e_putR dX6_init_19 rfl ⟨rfl, (by decide +kernel), (fun h => by cases h)⟩ h8 ?_
  refine e_aload_n dX6_init_22 rfl ?_
  refine e_sipush (v := (250 : Int32)) dX6_init_23 rfl ?_
  obtain ⟨h10, h⟩ := p_ok_some h
  replace h := p_lt h
  refine e_newI dX6_init_26 h10 ?_
  obtain ⟨h12, h⟩ := p_ok_some h
  replace h := p_lt h
  refine e_putR dX6_init_28 rfl ⟨rfl, (by decide +kernel), (fun h => by cases h)⟩ h12 ?_
  refine e_aload_n dX6_init_31 rfl ?_
  refine e_sipush (v := (250 : Int32)) dX6_init_32 rfl ?_
  obtain ⟨h14, h⟩ := p_ok_some h
  replace h := p_lt h
  refine e_newI dX6_init_35 h14 ?_
  obtain ⟨h16, h⟩ := p_ok_some h
  replace h := p_lt h
  refine e_putR dX6_init_37 rfl ⟨rfl, (by decide +kernel), (fun h => by cases h)⟩ h16 ?_
  refine e_aload_n dX6_init_40 rfl ?_
  refine e_sipush (v := (250 : Int32)) dX6_init_41 rfl ?_
  obtain ⟨h18, h⟩ := p_ok_some h
  replace h := p_lt h
  refine e_newI dX6_init_44 h18 ?_
  obtain ⟨h20, h⟩ := p_ok_some h
  replace h := p_lt h
  refine e_putR dX6_init_46 rfl ⟨rfl, (by decide +kernel), (fun h => by cases h)⟩ h20 ?_
  refine e_aload_n dX6_init_49 rfl ?_
  refine e_sipush (v := (250 : Int32)) dX6_init_50 rfl ?_
  obtain ⟨h22, h⟩ := p_ok_some h
  replace h := p_lt h
  refine e_newI dX6_init_53 h22 ?_
  obtain ⟨h24, h⟩ := p_ok_some h
  replace h := p_lt h
  refine e_putR dX6_init_55 rfl ⟨rfl, (by decide +kernel), (fun h => by cases h)⟩ h24 ?_
  refine e_aload_n dX6_init_58 rfl ?_
  refine e_sipush (v := (257 : Int32)) dX6_init_59 rfl ?_
  obtain ⟨h26, h⟩ := p_ok_some h
  replace h := p_lt h
  refine e_newI dX6_init_62 h26 ?_
  obtain ⟨h28, h⟩ := p_ok_some h
  replace h := p_lt h
  refine e_putR dX6_init_64 rfl ⟨rfl, (by decide +kernel), (fun h => by cases h)⟩ h28 ?_
  cases h
  exact e_vret dX6_init_67 rfl hQ
/-! X7_init -/
def F_X7_init (v0 : Nat) (μ : p_M) : Option (Int32 × p_M) :=
  p_ok (v0 < mN μ ∧ mK μ v0 < 15)
  (p_ok (¬ ((24 : Int32) < 0 ∨ 100000 < (24 : Int32).toNatClampNeg))
  (p_let (sN μ 20 (24 : Int32).toNatClampNeg (24 : Int32).toNatClampNeg) fun m3 =>
  p_ok (mK m3 v0 = 8 ∧ v0 < mN m3)
  (p_let (sR m3 v0 0 (some (mN μ))) fun m5 =>
  p_let (sI m5 v0 1 (1 : Int32)) fun m6 =>
  p_let (sI m6 v0 2 (1 : Int32)) fun m7 =>
  p_let (s_mn m7) fun m8 =>
  p_ok (mK m8 v0 = 8 ∧ v0 < mN m8)
  (p_let (sR m8 v0 3 (some (mN m7))) fun m10 =>
  some (0, m10)))))
theorem E_X7_init {X : p_X} {d : Nat} {Q : p_R → Prop} {v0 : Nat} {μ : p_M} {r : Int32 × p_M} (h : F_X7_init v0 μ = some r) (hQ : Q ((0, none), r.2)) : p_Ev X (d + 0) M_X7_init 0 [.ref v0] [] μ Q := by
  unfold F_X7_init at h
  refine e_aload_n dX7_init_0 rfl ?_
  obtain ⟨h1, h⟩ := p_ok_some h
  refine e_oinit dX7_init_1 rfl (Nat.le_of_ble_eq_true rfl) h1 ?_
  refine e_aload_n dX7_init_4 rfl ?_
  refine e_bipush (v := (24 : Int32)) dX7_init_5 rfl ?_
  obtain ⟨h2, h⟩ := p_ok_some h
  replace h := p_lt h
  refine e_newI dX7_init_7 h2 ?_
  obtain ⟨h4, h⟩ := p_ok_some h
  replace h := p_lt h
  refine e_putR dX7_init_9 rfl ⟨rfl, (by decide +kernel), (fun h => by cases h)⟩ h4 ?_
  refine e_aload_n dX7_init_12 rfl ?_
  refine e_iconst (v := (1 : Int32)) dX7_init_13 rfl ?_
  replace h := p_lt h
  refine e_putI dX7_init_14 rfl ⟨rfl, (by decide +kernel), (fun h => by cases h)⟩ (fun h => by cases h) h4.1 h4.2 ?_
  refine e_aload_n dX7_init_17 rfl ?_
  refine e_iconst (v := (1 : Int32)) dX7_init_18 rfl ?_
  replace h := p_lt h
  refine e_putI dX7_init_19 rfl ⟨rfl, (by decide +kernel), (fun h => by cases h)⟩ (fun h => by cases h) h4.1 h4.2 ?_
  refine e_aload_n dX7_init_22 rfl ?_
  refine e_iconst (v := (2 : Int32)) dX7_init_23 rfl ?_
  refine e_bipush (v := (96 : Int32)) dX7_init_24 rfl ?_
  replace h := p_lt h
  refine e_mnew dX7_init_26 ⟨rfl, rfl, rfl, rfl⟩ ?_
  obtain ⟨h9, h⟩ := p_ok_some h
  replace h := p_lt h
  refine e_putR dX7_init_30 rfl ⟨rfl, (by decide +kernel), (fun h => by cases h)⟩ h9 ?_
  cases h
  exact e_vret dX7_init_33 rfl hQ
/-! X9_init -/
def F_X9_init_c36 : Nat → Nat → Int32 → p_M → Option (Int32 × p_M)
  | 0, _, _, _ => none
  | n + 1, v0, v1, μ =>
    if (6 : Int32) < v1
    then (some (0, μ))
    else (p_ok (mK μ v0 = 10 ∧ v0 < mN μ)
      ((mR μ v0 0).bind fun q16 =>
      p_let (sN μ 4 0 (q_N 4)) fun m17 =>
      p_ok (mK m17 (mN μ) = 4 ∧ (mN μ) < mN m17)
      ((F_X3_init (mN μ) m17).bind fun q18 =>
      p_ok (((mK q18.2 q16 = 23 ∧ mK q18.2 (mN μ) = 4) ∨ (mK q18.2 q16 = 24 ∧ mK q18.2 (mN μ) = 6)) ∧ (mN μ) < mN q18.2 ∧ ¬ v1 < 0 ∧ v1.toNatClampNeg < mL q18.2 q16 ∧ q16 < mN q18.2)
      (p_let (sR q18.2 q16 v1.toNatClampNeg (some (mN μ))) fun m21 =>
      F_X9_init_c36 n v0 (v1 + (1 : Int32)) m21))))
theorem E_X9_init_c36 {X : p_X} {d : Nat} {Q : p_R → Prop} : ∀ (n : Nat) (v0 : Nat) (v1 : Int32) (μ : p_M) (r : Int32 × p_M), F_X9_init_c36 n v0 v1 μ = some r → Q ((0, none), r.2) → p_Ev X (d + 1) M_X9_init 36 [.ref v0, .int v1] [] μ Q := by
  intro n
  induction n with
  | zero => intro v0 v1 μ r h hQ; rw [F_X9_init_c36] at h; cases h
  | succ n ih =>
    intro v0 v1 μ r h hQ
    rw [F_X9_init_c36] at h
    refine e_iload_n dX9_init_36 rfl ?_
    refine e_bipush (v := (6 : Int32)) dX9_init_37 rfl ?_
    refine e_ic_gt dX9_init_39 61 (by decide) (fun hc => ?_) (fun hc => ?_)
    · rw [if_pos hc] at h
      cases h
      exact e_vret dX9_init_61 rfl hQ
    · rw [if_neg hc] at h
      refine e_aload_n dX9_init_42 rfl ?_
      obtain ⟨h15, h⟩ := p_ok_some h
      obtain ⟨q16, hq16, h⟩ := p_bd h
      refine e_getR dX9_init_43 rfl rfl h15.1 h15.2 hq16 ?_
      refine e_iload_n dX9_init_46 rfl ?_
      replace h := p_lt h
      refine e_new dX9_init_47 rfl ?_
      refine e_dupR dX9_init_50 ?_
      obtain ⟨h19, h⟩ := p_ok_some h
      obtain ⟨q18, hq18, h⟩ := p_bd h
      refine f_cPv dX9_init_51 rfl rfl ⟨rfl, rfl⟩ rfl h19 (fun Q' hQ' => E_X3_init hq18 hQ') ?_
      obtain ⟨h20, h⟩ := p_ok_some h
      replace h := p_lt h
      refine e_aast dX9_init_54 h20 ?_
      refine e_iinc (v := (1 : Int32)) dX9_init_55 rfl rfl rfl ?_
      refine e_goto dX9_init_58 36 (by decide) ?_
      exact ih _ _ _ _ h hQ
def F_X9_init (v0 : Nat) (μ : p_M) : Option (Int32 × p_M) :=
  p_ok (v0 < mN μ ∧ mK μ v0 < 15)
  (p_ok (¬ ((7 : Int32) < 0 ∨ 100000 < (7 : Int32).toNatClampNeg))
  (p_let (sN μ 23 (7 : Int32).toNatClampNeg (7 : Int32).toNatClampNeg) fun m3 =>
  p_ok (mK m3 v0 = 10 ∧ v0 < mN m3)
  (p_let (sR m3 v0 0 (some (mN μ))) fun m5 =>
  p_ok (¬ ((6 : Int32) < 0 ∨ 100000 < (6 : Int32).toNatClampNeg))
  (p_let (sN m5 20 (6 : Int32).toNatClampNeg (6 : Int32).toNatClampNeg) fun m7 =>
  p_ok (mK m7 v0 = 10 ∧ v0 < mN m7)
  (p_let (sR m7 v0 1 (some (mN m5))) fun m9 =>
  p_ok (¬ ((6 : Int32) < 0 ∨ 100000 < (6 : Int32).toNatClampNeg))
  (p_let (sN m9 20 (6 : Int32).toNatClampNeg (6 : Int32).toNatClampNeg) fun m11 =>
  p_ok (mK m11 v0 = 10 ∧ v0 < mN m11)
  (p_let (sR m11 v0 2 (some (mN m9))) fun m13 =>
  p_let (sI m13 v0 3 (-1)) fun m14 =>
  F_X9_init_c36 p_fu v0 (0 : Int32) m14)))))))
theorem E_X9_init {X : p_X} {d : Nat} {Q : p_R → Prop} {v0 : Nat} {μ : p_M} {r : Int32 × p_M} (h : F_X9_init v0 μ = some r) (hQ : Q ((0, none), r.2)) : p_Ev X (d + 1) M_X9_init 0 [.ref v0, .double 0] [] μ Q := by
  unfold F_X9_init at h
  refine e_aload_n dX9_init_0 rfl ?_
  obtain ⟨h1, h⟩ := p_ok_some h
  refine e_oinit dX9_init_1 rfl (Nat.le_of_ble_eq_true rfl) h1 ?_
  refine e_aload_n dX9_init_4 rfl ?_
  refine e_bipush (v := (7 : Int32)) dX9_init_5 rfl ?_
  obtain ⟨h2, h⟩ := p_ok_some h
  replace h := p_lt h
  refine e_newA4 dX9_init_7 rfl h2 ?_
  obtain ⟨h4, h⟩ := p_ok_some h
  replace h := p_lt h
  refine e_putR dX9_init_10 rfl ⟨rfl, (by decide +kernel), (fun h => by cases h)⟩ h4 ?_
  refine e_aload_n dX9_init_13 rfl ?_
  refine e_bipush (v := (6 : Int32)) dX9_init_14 rfl ?_
  obtain ⟨h6, h⟩ := p_ok_some h
  replace h := p_lt h
  refine e_newI dX9_init_16 h6 ?_
  obtain ⟨h8, h⟩ := p_ok_some h
  replace h := p_lt h
  refine e_putR dX9_init_18 rfl ⟨rfl, (by decide +kernel), (fun h => by cases h)⟩ h8 ?_
  refine e_aload_n dX9_init_21 rfl ?_
  refine e_bipush (v := (6 : Int32)) dX9_init_22 rfl ?_
  obtain ⟨h10, h⟩ := p_ok_some h
  replace h := p_lt h
  refine e_newI dX9_init_24 h10 ?_
  obtain ⟨h12, h⟩ := p_ok_some h
  replace h := p_lt h
  refine e_putR dX9_init_26 rfl ⟨rfl, (by decide +kernel), (fun h => by cases h)⟩ h12 ?_
  refine e_aload_n dX9_init_29 rfl ?_
  refine e_iconst (v := (-1)) dX9_init_30 rfl ?_
  replace h := p_lt h
  refine e_putI dX9_init_31 rfl ⟨rfl, (by decide +kernel), (fun h => by cases h)⟩ (fun h => by cases h) h12.1 h12.2 ?_
  refine e_iconst (v := (0 : Int32)) dX9_init_34 rfl ?_
  refine e_istore_n dX9_init_35 (Nat.le_of_ble_eq_true rfl) rfl ?_
  exact E_X9_init_c36 p_fu _ _ _ _ h hQ
/-! X12_init -/
def F_X12_init_c197 (X : p_X) : Nat → Nat → Int32 → p_M → Option (Int32 × p_M)
  | 0, _, _, _ => none
  | n + 1, v0, v1, μ =>
    if (4 : Int32) ≤ v1
    then (some (0, μ))
    else (p_ok (mK μ v0 = 13 ∧ v0 < mN μ)
      ((mR μ v0 12).bind fun q83 =>
      p_let (sN μ 6 0 (q_N 6)) fun m84 =>
      p_ok (mK m84 (mN μ) = 6 ∧ (mN μ) < mN m84)
      ((F_X5_init (mN μ) m84).bind fun q85 =>
      p_ok (((mK q85.2 q83 = 23 ∧ mK q85.2 (mN μ) = 4) ∨ (mK q85.2 q83 = 24 ∧ mK q85.2 (mN μ) = 6)) ∧ (mN μ) < mN q85.2 ∧ ¬ v1 < 0 ∧ v1.toNatClampNeg < mL q85.2 q83 ∧ q83 < mN q85.2)
      (p_let (sR q85.2 q83 v1.toNatClampNeg (some (mN μ))) fun m88 =>
      F_X12_init_c197 X n v0 (v1 + (1 : Int32)) m88))))
theorem E_X12_init_c197 {X : p_X} {d : Nat} {Q : p_R → Prop} : ∀ (n : Nat) (v0 : Nat) (v1 : Int32) (μ : p_M) (r : Int32 × p_M), F_X12_init_c197 X n v0 v1 μ = some r → Q ((0, none), r.2) → p_Ev X (d + 2) M_X12_init 197 [.ref v0, .int v1] [] μ Q := by
  intro n
  induction n with
  | zero => intro v0 v1 μ r h hQ; rw [F_X12_init_c197] at h; cases h
  | succ n ih =>
    intro v0 v1 μ r h hQ
    rw [F_X12_init_c197] at h
    refine e_iload_n dX12_init_197 rfl ?_
    refine e_iconst (v := (4 : Int32)) dX12_init_198 rfl ?_
    refine e_ic_ge dX12_init_199 221 (by decide) (fun hc => ?_) (fun hc => ?_)
    · rw [if_pos hc] at h
      cases h
      exact e_vret dX12_init_221 rfl hQ
    · rw [if_neg hc] at h
      refine e_aload_n dX12_init_202 rfl ?_
      obtain ⟨h82, h⟩ := p_ok_some h
      obtain ⟨q83, hq83, h⟩ := p_bd h
      refine e_getR dX12_init_203 rfl rfl h82.1 h82.2 hq83 ?_
      refine e_iload_n dX12_init_206 rfl ?_
      replace h := p_lt h
      refine e_new dX12_init_207 rfl ?_
      refine e_dupR dX12_init_210 ?_
      obtain ⟨h86, h⟩ := p_ok_some h
      obtain ⟨q85, hq85, h⟩ := p_bd h
      refine f_cPv dX12_init_211 rfl rfl ⟨rfl, rfl⟩ rfl h86 (fun Q' hQ' => E_X5_init hq85 hQ') ?_
      obtain ⟨h87, h⟩ := p_ok_some h
      replace h := p_lt h
      refine e_aast dX12_init_214 h87 ?_
      refine e_iinc (v := (1 : Int32)) dX12_init_215 rfl rfl rfl ?_
      refine e_goto dX12_init_218 197 (by decide) ?_
      exact ih _ _ _ _ h hQ
def F_X12_init_c170 (X : p_X) : Nat → Nat → Int32 → p_M → Option (Int32 × p_M)
  | 0, _, _, _ => none
  | n + 1, v0, v1, μ =>
    if (6 : Int32) ≤ v1
    then (F_X12_init_c197 X p_fu v0 (0 : Int32) μ)
    else (p_ok (mK μ v0 = 13 ∧ v0 < mN μ)
      ((mR μ v0 1).bind fun q76 =>
      p_let (sN μ 4 0 (q_N 4)) fun m77 =>
      p_ok (mK m77 (mN μ) = 4 ∧ (mN μ) < mN m77)
      ((F_X3_init (mN μ) m77).bind fun q78 =>
      p_ok (((mK q78.2 q76 = 23 ∧ mK q78.2 (mN μ) = 4) ∨ (mK q78.2 q76 = 24 ∧ mK q78.2 (mN μ) = 6)) ∧ (mN μ) < mN q78.2 ∧ ¬ v1 < 0 ∧ v1.toNatClampNeg < mL q78.2 q76 ∧ q76 < mN q78.2)
      (p_let (sR q78.2 q76 v1.toNatClampNeg (some (mN μ))) fun m81 =>
      F_X12_init_c170 X n v0 (v1 + (1 : Int32)) m81))))
theorem E_X12_init_c170 {X : p_X} {d : Nat} {Q : p_R → Prop} : ∀ (n : Nat) (v0 : Nat) (v1 : Int32) (μ : p_M) (r : Int32 × p_M), F_X12_init_c170 X n v0 v1 μ = some r → Q ((0, none), r.2) → p_Ev X (d + 2) M_X12_init 170 [.ref v0, .int v1] [] μ Q := by
  intro n
  induction n with
  | zero => intro v0 v1 μ r h hQ; rw [F_X12_init_c170] at h; cases h
  | succ n ih =>
    intro v0 v1 μ r h hQ
    rw [F_X12_init_c170] at h
    refine e_iload_n dX12_init_170 rfl ?_
    refine e_bipush (v := (6 : Int32)) dX12_init_171 rfl ?_
    refine e_ic_ge dX12_init_173 195 (by decide) (fun hc => ?_) (fun hc => ?_)
    · rw [if_pos hc] at h
      refine e_iconst (v := (0 : Int32)) dX12_init_195 rfl ?_
      refine e_istore_n dX12_init_196 (Nat.le_of_ble_eq_true rfl) rfl ?_
      exact E_X12_init_c197 p_fu _ _ _ _ h hQ
    · rw [if_neg hc] at h
      refine e_aload_n dX12_init_176 rfl ?_
      obtain ⟨h75, h⟩ := p_ok_some h
      obtain ⟨q76, hq76, h⟩ := p_bd h
      refine e_getR dX12_init_177 rfl rfl h75.1 h75.2 hq76 ?_
      refine e_iload_n dX12_init_180 rfl ?_
      replace h := p_lt h
      refine e_new dX12_init_181 rfl ?_
      refine e_dupR dX12_init_184 ?_
      obtain ⟨h79, h⟩ := p_ok_some h
      obtain ⟨q78, hq78, h⟩ := p_bd h
      refine f_cPv dX12_init_185 rfl rfl ⟨rfl, rfl⟩ rfl h79 (fun Q' hQ' => E_X3_init hq78 hQ') ?_
      obtain ⟨h80, h⟩ := p_ok_some h
      replace h := p_lt h
      refine e_aast dX12_init_188 h80 ?_
      refine e_iinc (v := (1 : Int32)) dX12_init_189 rfl rfl rfl ?_
      refine e_goto dX12_init_192 170 (by decide) ?_
      exact ih _ _ _ _ h hQ
def F_X12_init (X : p_X) (v0 : Nat) (μ : p_M) : Option (Int32 × p_M) :=
  p_ok (v0 < mN μ ∧ mK μ v0 < 15)
  (p_let (sN μ 11 0 (q_N 11)) fun m2 =>
  p_ok (mK m2 (mN μ) = 11 ∧ (mN μ) < mN m2)
  ((F_X10_init (mN μ) m2).bind fun q3 =>
  p_ok (mK q3.2 v0 = 13 ∧ v0 < mN q3.2)
  (p_let (sR q3.2 v0 0 (some (mN μ))) fun m6 =>
  p_ok (¬ ((6 : Int32) < 0 ∨ 100000 < (6 : Int32).toNatClampNeg))
  (p_let (sN m6 23 (6 : Int32).toNatClampNeg (6 : Int32).toNatClampNeg) fun m8 =>
  p_ok (mK m8 v0 = 13 ∧ v0 < mN m8)
  (p_let (sR m8 v0 1 (some (mN m6))) fun m10 =>
  p_let (sN m10 9 0 (q_N 9)) fun m11 =>
  p_ok (mK m11 (mN m10) = 9 ∧ (mN m10) < mN m11)
  ((F_X8_init (mN m10) (20 : Int32) m11).bind fun q12 =>
  p_ok (mK q12.2 v0 = 13 ∧ v0 < mN q12.2)
  (p_let (sR q12.2 v0 3 (some (mN m10))) fun m15 =>
  p_let (sN m15 9 0 (q_N 9)) fun m16 =>
  p_ok (mK m16 (mN m15) = 9 ∧ (mN m15) < mN m16)
  ((F_X8_init (mN m15) (20 : Int32) m16).bind fun q17 =>
  p_ok (mK q17.2 v0 = 13 ∧ v0 < mN q17.2)
  (p_let (sR q17.2 v0 4 (some (mN m15))) fun m20 =>
  p_let (sN m20 2 0 (q_N 2)) fun m21 =>
  p_ok (mK m21 (mN m20) = 2 ∧ (mN m20) < mN m21)
  ((F_X1_init X (mN m20) m21).bind fun q22 =>
  p_ok (mK q22.2 v0 = 13 ∧ v0 < mN q22.2)
  (p_let (sR q22.2 v0 5 (some (mN m20))) fun m25 =>
  p_let (sN m25 2 0 (q_N 2)) fun m26 =>
  p_ok (mK m26 (mN m25) = 2 ∧ (mN m25) < mN m26)
  ((F_X1_init X (mN m25) m26).bind fun q27 =>
  p_ok (mK q27.2 v0 = 13 ∧ v0 < mN q27.2)
  (p_let (sR q27.2 v0 6 (some (mN m25))) fun m30 =>
  p_let (sN m30 4 0 (q_N 4)) fun m31 =>
  p_ok (mK m31 (mN m30) = 4 ∧ (mN m30) < mN m31)
  ((F_X3_init (mN m30) m31).bind fun q32 =>
  p_ok (mK q32.2 v0 = 13 ∧ v0 < mN q32.2)
  (p_let (sR q32.2 v0 7 (some (mN m30))) fun m35 =>
  p_let (sN m35 10 0 (q_N 10)) fun m36 =>
  p_ok (mK m36 (mN m35) = 10 ∧ (mN m35) < mN m36)
  ((F_X9_init (mN m35) m36).bind fun q37 =>
  p_ok (mK q37.2 v0 = 13 ∧ v0 < mN q37.2)
  (p_let (sR q37.2 v0 8 (some (mN m35))) fun m40 =>
  p_let (sN m40 3 0 (q_N 3)) fun m41 =>
  p_ok (mK m41 (mN m40) = 3 ∧ (mN m40) < mN m41)
  ((F_X2_init (mN m40) m41).bind fun q42 =>
  p_ok (mK q42.2 v0 = 13 ∧ v0 < mN q42.2)
  (p_let (sR q42.2 v0 9 (some (mN m40))) fun m45 =>
  p_let (sN m45 12 0 (q_N 12)) fun m46 =>
  p_ok (mK m46 (mN m45) = 12 ∧ (mN m45) < mN m46)
  ((F_X11_init (mN m45) m46).bind fun q47 =>
  p_ok (mK q47.2 v0 = 13 ∧ v0 < mN q47.2)
  (p_let (sR q47.2 v0 10 (some (mN m45))) fun m50 =>
  p_let (sN m50 1 0 (q_N 1)) fun m51 =>
  p_ok (mK m51 (mN m50) = 1 ∧ (mN m50) < mN m51)
  ((F_X0_init (mN m50) m51).bind fun q52 =>
  p_ok (mK q52.2 v0 = 13 ∧ v0 < mN q52.2)
  (p_let (sR q52.2 v0 11 (some (mN m50))) fun m55 =>
  p_ok (¬ ((4 : Int32) < 0 ∨ 100000 < (4 : Int32).toNatClampNeg))
  (p_let (sN m55 24 (4 : Int32).toNatClampNeg (4 : Int32).toNatClampNeg) fun m57 =>
  p_ok (mK m57 v0 = 13 ∧ v0 < mN m57)
  (p_let (sR m57 v0 12 (some (mN m55))) fun m59 =>
  p_let (sN m59 0 0 (q_N 0)) fun m60 =>
  p_ok ((mN m59) < mN m60 ∧ mK m60 (mN m59) = 0)
  (p_let (sR m60 (mN m59) 1 (some (p_E + 3))) fun m62 =>
  p_ok (mK m62 v0 = 13 ∧ v0 < mN m62)
  (p_let (sR m62 v0 14 (some (mN m59))) fun m64 =>
  p_let (sN m64 7 0 (q_N 7)) fun m65 =>
  p_ok (mK m65 (mN m64) = 7 ∧ (mN m64) < mN m65)
  ((F_X6_init (mN m64) m65).bind fun q66 =>
  p_ok (mK q66.2 v0 = 13 ∧ v0 < mN q66.2)
  (p_let (sR q66.2 v0 16 (some (mN m64))) fun m69 =>
  p_let (sN m69 8 0 (q_N 8)) fun m70 =>
  p_ok (mK m70 (mN m69) = 8 ∧ (mN m69) < mN m70)
  ((F_X7_init (mN m69) m70).bind fun q71 =>
  p_ok (mK q71.2 v0 = 13 ∧ v0 < mN q71.2)
  (p_let (sR q71.2 v0 19 (some (mN m69))) fun m74 =>
  F_X12_init_c170 X p_fu v0 (0 : Int32) m74)))))))))))))))))))))))))))))))
theorem E_X12_init {X : p_X} {d : Nat} {Q : p_R → Prop} {v0 : Nat} {μ : p_M} {r : Int32 × p_M} (h : F_X12_init X v0 μ = some r) (hQ : Q ((0, none), r.2)) : p_Ev X (d + 2) M_X12_init 0 [.ref v0, .double 0] [] μ Q := by
  unfold F_X12_init at h
  refine e_aload_n dX12_init_0 rfl ?_
  obtain ⟨h1, h⟩ := p_ok_some h
  refine e_oinit dX12_init_1 rfl (Nat.le_of_ble_eq_true rfl) h1 ?_
  refine e_aload_n dX12_init_4 rfl ?_
  replace h := p_lt h
  refine e_new dX12_init_5 rfl ?_
  refine e_dupR dX12_init_8 ?_
  obtain ⟨h4, h⟩ := p_ok_some h
  obtain ⟨q3, hq3, h⟩ := p_bd h
  refine f_cPv dX12_init_9 rfl rfl ⟨rfl, rfl⟩ rfl h4 (fun Q' hQ' => E_X10_init hq3 hQ') ?_
  obtain ⟨h5, h⟩ := p_ok_some h
  replace h := p_lt h
  refine e_putR dX12_init_12 rfl ⟨rfl, (by decide +kernel), (fun h => by cases h)⟩ h5 ?_
  refine e_aload_n dX12_init_15 rfl ?_
  refine e_bipush (v := (6 : Int32)) dX12_init_16 rfl ?_
  obtain ⟨h7, h⟩ := p_ok_some h
  replace h := p_lt h
  refine e_newA4 dX12_init_18 rfl h7 ?_
  obtain ⟨h9, h⟩ := p_ok_some h
  replace h := p_lt h
  refine e_putR dX12_init_21 rfl ⟨rfl, (by decide +kernel), (fun h => by cases h)⟩ h9 ?_
  refine e_aload_n dX12_init_24 rfl ?_
  replace h := p_lt h
  refine e_new dX12_init_25 rfl ?_
  refine e_dupR dX12_init_28 ?_
  refine e_bipush (v := (20 : Int32)) dX12_init_29 rfl ?_
  obtain ⟨h13, h⟩ := p_ok_some h
  obtain ⟨q12, hq12, h⟩ := p_bd h
  refine f_cPv dX12_init_31 rfl rfl ⟨rfl, rfl⟩ rfl h13 (fun Q' hQ' => E_X8_init hq12 hQ') ?_
  obtain ⟨h14, h⟩ := p_ok_some h
  replace h := p_lt h
  refine e_putR dX12_init_34 rfl ⟨rfl, (by decide +kernel), (fun h => by cases h)⟩ h14 ?_
  refine e_aload_n dX12_init_37 rfl ?_
  replace h := p_lt h
  refine e_new dX12_init_38 rfl ?_
  refine e_dupR dX12_init_41 ?_
  refine e_bipush (v := (20 : Int32)) dX12_init_42 rfl ?_
  obtain ⟨h18, h⟩ := p_ok_some h
  obtain ⟨q17, hq17, h⟩ := p_bd h
  refine f_cPv dX12_init_44 rfl rfl ⟨rfl, rfl⟩ rfl h18 (fun Q' hQ' => E_X8_init hq17 hQ') ?_
  obtain ⟨h19, h⟩ := p_ok_some h
  replace h := p_lt h
  refine e_putR dX12_init_47 rfl ⟨rfl, (by decide +kernel), (fun h => by cases h)⟩ h19 ?_
  refine e_aload_n dX12_init_50 rfl ?_
  replace h := p_lt h
  refine e_new dX12_init_51 rfl ?_
  refine e_dupR dX12_init_54 ?_
  obtain ⟨h23, h⟩ := p_ok_some h
  obtain ⟨q22, hq22, h⟩ := p_bd h
  refine f_cPv dX12_init_55 rfl rfl ⟨rfl, rfl⟩ rfl h23 (fun Q' hQ' => E_X1_init hq22 hQ') ?_
  obtain ⟨h24, h⟩ := p_ok_some h
  replace h := p_lt h
  refine e_putR dX12_init_58 rfl ⟨rfl, (by decide +kernel), (fun h => by cases h)⟩ h24 ?_
  refine e_aload_n dX12_init_61 rfl ?_
  replace h := p_lt h
  refine e_new dX12_init_62 rfl ?_
  refine e_dupR dX12_init_65 ?_
  obtain ⟨h28, h⟩ := p_ok_some h
  obtain ⟨q27, hq27, h⟩ := p_bd h
  refine f_cPv dX12_init_66 rfl rfl ⟨rfl, rfl⟩ rfl h28 (fun Q' hQ' => E_X1_init hq27 hQ') ?_
  obtain ⟨h29, h⟩ := p_ok_some h
  replace h := p_lt h
  refine e_putR dX12_init_69 rfl ⟨rfl, (by decide +kernel), (fun h => by cases h)⟩ h29 ?_
  refine e_aload_n dX12_init_72 rfl ?_
  replace h := p_lt h
  refine e_new dX12_init_73 rfl ?_
  refine e_dupR dX12_init_76 ?_
  obtain ⟨h33, h⟩ := p_ok_some h
  obtain ⟨q32, hq32, h⟩ := p_bd h
  refine f_cPv dX12_init_77 rfl rfl ⟨rfl, rfl⟩ rfl h33 (fun Q' hQ' => E_X3_init hq32 hQ') ?_
  obtain ⟨h34, h⟩ := p_ok_some h
  replace h := p_lt h
  refine e_putR dX12_init_80 rfl ⟨rfl, (by decide +kernel), (fun h => by cases h)⟩ h34 ?_
  refine e_aload_n dX12_init_83 rfl ?_
  replace h := p_lt h
  refine e_new dX12_init_84 rfl ?_
  refine e_dupR dX12_init_87 ?_
  obtain ⟨h38, h⟩ := p_ok_some h
  obtain ⟨q37, hq37, h⟩ := p_bd h
  refine f_cPv dX12_init_88 rfl rfl ⟨rfl, rfl⟩ rfl h38 (fun Q' hQ' => E_X9_init hq37 hQ') ?_
  obtain ⟨h39, h⟩ := p_ok_some h
  replace h := p_lt h
  refine e_putR dX12_init_91 rfl ⟨rfl, (by decide +kernel), (fun h => by cases h)⟩ h39 ?_
  refine e_aload_n dX12_init_94 rfl ?_
  replace h := p_lt h
  refine e_new dX12_init_95 rfl ?_
  refine e_dupR dX12_init_98 ?_
  obtain ⟨h43, h⟩ := p_ok_some h
  obtain ⟨q42, hq42, h⟩ := p_bd h
  refine f_cPv dX12_init_99 rfl rfl ⟨rfl, rfl⟩ rfl h43 (fun Q' hQ' => E_X2_init hq42 hQ') ?_
  obtain ⟨h44, h⟩ := p_ok_some h
  replace h := p_lt h
  refine e_putR dX12_init_102 rfl ⟨rfl, (by decide +kernel), (fun h => by cases h)⟩ h44 ?_
  refine e_aload_n dX12_init_105 rfl ?_
  replace h := p_lt h
  refine e_new dX12_init_106 rfl ?_
  refine e_dupR dX12_init_109 ?_
  obtain ⟨h48, h⟩ := p_ok_some h
  obtain ⟨q47, hq47, h⟩ := p_bd h
  refine f_cPv dX12_init_110 rfl rfl ⟨rfl, rfl⟩ rfl h48 (fun Q' hQ' => E_X11_init hq47 hQ') ?_
  obtain ⟨h49, h⟩ := p_ok_some h
  replace h := p_lt h
  refine e_putR dX12_init_113 rfl ⟨rfl, (by decide +kernel), (fun h => by cases h)⟩ h49 ?_
  refine e_aload_n dX12_init_116 rfl ?_
  replace h := p_lt h
  refine e_new dX12_init_117 rfl ?_
  refine e_dupR dX12_init_120 ?_
  obtain ⟨h53, h⟩ := p_ok_some h
  obtain ⟨q52, hq52, h⟩ := p_bd h
  refine f_cPv dX12_init_121 rfl rfl ⟨rfl, rfl⟩ rfl h53 (fun Q' hQ' => E_X0_init hq52 hQ') ?_
  obtain ⟨h54, h⟩ := p_ok_some h
  replace h := p_lt h
  refine e_putR dX12_init_124 rfl ⟨rfl, (by decide +kernel), (fun h => by cases h)⟩ h54 ?_
  refine e_aload_n dX12_init_127 rfl ?_
  refine e_iconst (v := (4 : Int32)) dX12_init_128 rfl ?_
  obtain ⟨h56, h⟩ := p_ok_some h
  replace h := p_lt h
  refine e_newA6 dX12_init_129 rfl h56 ?_
  obtain ⟨h58, h⟩ := p_ok_some h
  replace h := p_lt h
  refine e_putR dX12_init_132 rfl ⟨rfl, (by decide +kernel), (fun h => by cases h)⟩ h58 ?_
  refine e_aload_n dX12_init_135 rfl ?_
  replace h := p_lt h
  refine e_new dX12_init_136 rfl ?_
  refine e_dupR dX12_init_139 ?_
  obtain ⟨h61, h⟩ := p_ok_some h
  replace h := p_lt h
  refine e_linit dX12_init_140 rfl (Nat.le_of_ble_eq_true rfl) h61 ?_
  obtain ⟨h63, h⟩ := p_ok_some h
  replace h := p_lt h
  refine e_putR dX12_init_143 rfl ⟨rfl, (by decide +kernel), (fun h => by cases h)⟩ h63 ?_
  refine e_aload_n dX12_init_146 rfl ?_
  replace h := p_lt h
  refine e_new dX12_init_147 rfl ?_
  refine e_dupR dX12_init_150 ?_
  obtain ⟨h67, h⟩ := p_ok_some h
  obtain ⟨q66, hq66, h⟩ := p_bd h
  refine f_cPv dX12_init_151 rfl rfl ⟨rfl, rfl⟩ rfl h67 (fun Q' hQ' => E_X6_init hq66 hQ') ?_
  obtain ⟨h68, h⟩ := p_ok_some h
  replace h := p_lt h
  refine e_putR dX12_init_154 rfl ⟨rfl, (by decide +kernel), (fun h => by cases h)⟩ h68 ?_
  refine e_aload_n dX12_init_157 rfl ?_
  replace h := p_lt h
  refine e_new dX12_init_158 rfl ?_
  refine e_dupR dX12_init_161 ?_
  obtain ⟨h72, h⟩ := p_ok_some h
  obtain ⟨q71, hq71, h⟩ := p_bd h
  refine f_cPv dX12_init_162 rfl rfl ⟨rfl, rfl⟩ rfl h72 (fun Q' hQ' => E_X7_init hq71 hQ') ?_
  obtain ⟨h73, h⟩ := p_ok_some h
  replace h := p_lt h
  refine e_putR dX12_init_165 rfl ⟨rfl, (by decide +kernel), (fun h => by cases h)⟩ h73 ?_
  refine e_iconst (v := (0 : Int32)) dX12_init_168 rfl ?_
  refine e_istore_n dX12_init_169 (Nat.le_of_ble_eq_true rfl) rfl ?_
  exact E_X12_init_c170 p_fu _ _ _ _ h hQ
/-! X2_lesser -/
def F_X2_lesser_c21 (s0 : Int32) (μ : p_M) : Option (Int32 × p_M) :=
  some (s0, μ)
theorem E_X2_lesser_c21 {X : p_X} {d : Nat} {Q : p_R → Prop} {s0 : Int32} {w0 : Value} {w1 : Value} {μ : p_M} {r : Int32 × p_M} (h : F_X2_lesser_c21 s0 μ = some r) (hQ : Q ((0, some (.int r.1)), r.2)) : p_Ev X (d + 0) M_X2_lesser 21 [w0, w1] [.int s0] μ Q := by
  unfold F_X2_lesser_c21 at h
  cases h
  exact e_ireti dX2_lesser_21 rfl hQ
def F_X2_lesser (v0 : Int32) (v1 : Int32) (μ : p_M) : Option (Int32 × p_M) :=
  if ¬ v0 = (-1)
  then (if ¬ v1 = (-1)
    then (F_X2_lesser_c21 (if v1 < v0 then v1 else v0) μ)
    else (F_X2_lesser_c21 v0 μ))
  else (some (v1, μ))
theorem E_X2_lesser {X : p_X} {d : Nat} {Q : p_R → Prop} {v0 : Int32} {v1 : Int32} {μ : p_M} {r : Int32 × p_M} (h : F_X2_lesser v0 v1 μ = some r) (hQ : Q ((0, some (.int r.1)), r.2)) : p_Ev X (d + 0) M_X2_lesser 0 [.int v0, .int v1] [] μ Q := by
  unfold F_X2_lesser at h
  refine e_iload_n dX2_lesser_0 rfl ?_
  refine e_iconst (v := (-1)) dX2_lesser_1 rfl ?_
  refine e_ic_ne dX2_lesser_2 7 (by decide) (fun hc => ?_) (fun hc => ?_)
  · rw [if_pos hc] at h
    refine e_iload_n dX2_lesser_7 rfl ?_
    refine e_iconst (v := (-1)) dX2_lesser_8 rfl ?_
    refine e_ic_ne dX2_lesser_9 16 (by decide) (fun hc => ?_) (fun hc => ?_)
    · rw [if_pos hc] at h
      refine e_iload_n dX2_lesser_16 rfl ?_
      refine e_iload_n dX2_lesser_17 rfl ?_
      refine e_min dX2_lesser_18 rfl (Nat.le_of_ble_eq_true rfl) ?_
      exact E_X2_lesser_c21 h hQ
    · rw [if_neg hc] at h
      refine e_iload_n dX2_lesser_12 rfl ?_
      refine e_goto dX2_lesser_13 21 (by decide) ?_
      exact E_X2_lesser_c21 h hQ
  · rw [if_neg hc] at h
    refine e_iload_n dX2_lesser_5 rfl ?_
    cases h
    exact e_ireti dX2_lesser_6 rfl hQ
/-! X2_goOn -/
def F_X2_goOn_c93 (K15 : Nat → Int32 → Int32 → Int32 → Int32 → p_M → Option (Int32 × p_M)) (v0 : Nat) (v1 : Int32) (v2 : Int32) (v3 : Int32) (v4 : Int32) (μ : p_M) : Option (Int32 × p_M) :=
  K15 v0 v1 v2 v3 (v4 + (1 : Int32)) μ
theorem E_X2_goOn_c93 {X : p_X} {d : Nat} {Q : p_R → Prop} {K15 : Nat → Int32 → Int32 → Int32 → Int32 → p_M → Option (Int32 × p_M)} (hK15 : ∀ (v0 : Nat) (v1 : Int32) (v2 : Int32) (v3 : Int32) (v4 : Int32) (μ : p_M) (r : Int32 × p_M) (w5 : Value) (w6 : Value), K15 v0 v1 v2 v3 v4 μ = some r → Q ((0, none), r.2) → p_Ev X (d + 1) M_X2_goOn 15 [.ref v0, .int v1, .int v2, .int v3, .int v4, w5, w6] [] μ Q) {v0 : Nat} {v1 : Int32} {v2 : Int32} {v3 : Int32} {v4 : Int32} {w5 : Value} {w6 : Value} {μ : p_M} {r : Int32 × p_M} (h : F_X2_goOn_c93 K15 v0 v1 v2 v3 v4 μ = some r) (hQ : Q ((0, none), r.2)) : p_Ev X (d + 1) M_X2_goOn 93 [.ref v0, .int v1, .int v2, .int v3, .int v4, w5, w6] [] μ Q := by
  unfold F_X2_goOn_c93 at h
  refine e_iinc (v := (1 : Int32)) dX2_goOn_93 rfl rfl rfl ?_
  refine e_goto dX2_goOn_96 15 (by decide) ?_
  exact hK15 _ _ _ _ _ _ _ _ _ h hQ
def F_X2_goOn_c15 : Nat → Nat → Int32 → Int32 → Int32 → Int32 → p_M → Option (Int32 × p_M)
  | 0, _, _, _, _, _, _ => none
  | n + 1, v0, v1, v2, v3, v4, μ =>
    p_ok (mK μ v0 = 3 ∧ v0 < mN μ)
    (if (mI μ v0 2) ≤ v4
    then (some (0, μ))
    else ((mR μ v0 1).bind fun q6 =>
      p_ok (q6 < p_E ∧ mK μ q6 = 20 ∧ q6 < mN μ)
      (p_ok (¬ v2 < 0 ∧ v2.toNatClampNeg < mL μ q6)
      (p_ok (¬ v4 < 0 ∧ v4.toNatClampNeg < mL μ q6)
      ((F_X2_between v0 (mI μ q6 v2.toNatClampNeg) (mI μ q6 v4.toNatClampNeg) μ).bind fun q10 =>
      if ¬ (v1 &&& ((1 : Int32) <<< (v4 &&& 31))) = 0
      then (F_X2_goOn_c93 (F_X2_goOn_c15 n) v0 v1 v2 v3 v4 q10.2)
      else (if q10.1 = (-1)
        then (F_X2_goOn_c93 (F_X2_goOn_c15 n) v0 v1 v2 v3 v4 q10.2)
        else (p_ok (mK q10.2 v0 = 3 ∧ v0 < mN q10.2)
          ((mR q10.2 v0 3).bind fun q12 =>
          p_ok (q12 < p_E ∧ mK q10.2 q12 = 20 ∧ q12 < mN q10.2)
          (p_ok (¬ (((v1 ||| ((1 : Int32) <<< (v4 &&& 31))) * (9 : Int32)) + v4) < 0 ∧ (((v1 ||| ((1 : Int32) <<< (v4 &&& 31))) * (9 : Int32)) + v4).toNatClampNeg < mL q10.2 q12)
          ((F_X2_lesser (mI q10.2 q12 (((v1 ||| ((1 : Int32) <<< (v4 &&& 31))) * (9 : Int32)) + v4).toNatClampNeg) (v3 + q10.1) q10.2).bind fun q15 =>
          p_ok (q12 < p_E ∧ mK q15.2 q12 = 20 ∧ q12 < mN q15.2)
          (p_ok (¬ (((v1 ||| ((1 : Int32) <<< (v4 &&& 31))) * (9 : Int32)) + v4) < 0 ∧ (((v1 ||| ((1 : Int32) <<< (v4 &&& 31))) * (9 : Int32)) + v4).toNatClampNeg < mL q15.2 q12)
          (p_let (sI q15.2 q12 (((v1 ||| ((1 : Int32) <<< (v4 &&& 31))) * (9 : Int32)) + v4).toNatClampNeg q15.1) fun m18 =>
          F_X2_goOn_c93 (F_X2_goOn_c15 n) v0 v1 v2 v3 v4 m18))))))))))))
theorem E_X2_goOn_c15 {X : p_X} {d : Nat} {Q : p_R → Prop} : ∀ (n : Nat) (v0 : Nat) (v1 : Int32) (v2 : Int32) (v3 : Int32) (v4 : Int32) (μ : p_M) (r : Int32 × p_M) (w5 : Value) (w6 : Value), F_X2_goOn_c15 n v0 v1 v2 v3 v4 μ = some r → Q ((0, none), r.2) → p_Ev X (d + 1) M_X2_goOn 15 [.ref v0, .int v1, .int v2, .int v3, .int v4, w5, w6] [] μ Q := by
  intro n
  induction n with
  | zero => intro v0 v1 v2 v3 v4 μ r w5 w6 h hQ; rw [F_X2_goOn_c15] at h; cases h
  | succ n ih =>
    intro v0 v1 v2 v3 v4 μ r w5 w6 h hQ
    rw [F_X2_goOn_c15] at h
    refine e_iload dX2_goOn_15 rfl ?_
    refine e_aload_n dX2_goOn_17 rfl ?_
    obtain ⟨h5, h⟩ := p_ok_some h
    refine e_getI dX2_goOn_18 rfl rfl h5.1 h5.2 ?_
    refine e_ic_ge dX2_goOn_21 99 (by decide) (fun hc => ?_) (fun hc => ?_)
    · rw [if_pos hc] at h
      cases h
      exact e_vret dX2_goOn_99 rfl hQ
    · rw [if_neg hc] at h
      refine e_aload_n dX2_goOn_24 rfl ?_
      refine e_aload_n dX2_goOn_25 rfl ?_
      obtain ⟨q6, hq6, h⟩ := p_bd h
      refine e_getR dX2_goOn_26 rfl rfl h5.1 h5.2 hq6 ?_
      refine e_iload_n dX2_goOn_29 rfl ?_
      obtain ⟨h7, h⟩ := p_ok_some h
      obtain ⟨h8, h⟩ := p_ok_some h
      refine e_iaG dX2_goOn_30 h7 h8 ?_
      refine e_aload_n dX2_goOn_31 rfl ?_
      refine e_getR dX2_goOn_32 rfl rfl h5.1 h5.2 hq6 ?_
      refine e_iload dX2_goOn_35 rfl ?_
      obtain ⟨h9, h⟩ := p_ok_some h
      refine e_iaG dX2_goOn_37 h7 h9 ?_
      obtain ⟨q10, hq10, h⟩ := p_bd h
      refine f_cVi dX2_goOn_38 rfl rfl ⟨rfl, rfl, by decide⟩ rfl h5 (fun Q' hQ' => E_X2_between hq10 hQ') ?_
      refine e_istore dX2_goOn_41 (Nat.le_of_ble_eq_true rfl) rfl ?_
      refine e_iload_n dX2_goOn_43 rfl ?_
      refine e_iconst (v := (1 : Int32)) dX2_goOn_44 rfl ?_
      refine e_iload dX2_goOn_45 rfl ?_
      refine e_ishl dX2_goOn_47 ?_
      refine e_iand dX2_goOn_48 ?_
      refine e_if_ne dX2_goOn_49 93 (by decide) (fun hc => ?_) (fun hc => ?_)
      · rw [if_pos hc] at h
        exact E_X2_goOn_c93 ih h hQ
      · rw [if_neg hc] at h
        refine e_iload dX2_goOn_52 rfl ?_
        refine e_iconst (v := (-1)) dX2_goOn_54 rfl ?_
        refine e_ic_eq dX2_goOn_55 93 (by decide) (fun hc => ?_) (fun hc => ?_)
        · rw [if_pos hc] at h
          exact E_X2_goOn_c93 ih h hQ
        · rw [if_neg hc] at h
          refine e_iload_n dX2_goOn_58 rfl ?_
          refine e_iconst (v := (1 : Int32)) dX2_goOn_59 rfl ?_
          refine e_iload dX2_goOn_60 rfl ?_
          refine e_ishl dX2_goOn_62 ?_
          refine e_ior dX2_goOn_63 ?_
          refine e_bipush (v := (9 : Int32)) dX2_goOn_64 rfl ?_
          refine e_imul dX2_goOn_66 ?_
          refine e_iload dX2_goOn_67 rfl ?_
          refine e_iadd dX2_goOn_69 ?_
          refine e_istore dX2_goOn_70 (Nat.le_of_ble_eq_true rfl) rfl ?_
          refine e_aload_n dX2_goOn_72 rfl ?_
          obtain ⟨h11, h⟩ := p_ok_some h
          obtain ⟨q12, hq12, h⟩ := p_bd h
          refine e_getR dX2_goOn_73 rfl rfl h11.1 h11.2 hq12 ?_
          refine e_iload dX2_goOn_76 rfl ?_
          refine e_aload_n dX2_goOn_78 rfl ?_
          refine e_getR dX2_goOn_79 rfl rfl h11.1 h11.2 hq12 ?_
          refine e_iload dX2_goOn_82 rfl ?_
          obtain ⟨h13, h⟩ := p_ok_some h
          obtain ⟨h14, h⟩ := p_ok_some h
          refine e_iaG dX2_goOn_84 h13 h14 ?_
          refine e_iload_n dX2_goOn_85 rfl ?_
          refine e_iload dX2_goOn_86 rfl ?_
          refine e_iadd dX2_goOn_88 ?_
          obtain ⟨q15, hq15, h⟩ := p_bd h
          refine f_cSi dX2_goOn_89 rfl rfl rfl rfl (fun Q' hQ' => E_X2_lesser hq15 hQ') ?_
          obtain ⟨h16, h⟩ := p_ok_some h
          obtain ⟨h17, h⟩ := p_ok_some h
          replace h := p_lt h
          refine e_iaS dX2_goOn_92 h16 h17 ?_
          exact E_X2_goOn_c93 ih h hQ
def F_X2_goOn (v0 : Nat) (v1 : Int32) (v2 : Int32) (μ : p_M) : Option (Int32 × p_M) :=
  p_ok (mK μ v0 = 3 ∧ v0 < mN μ)
  ((mR μ v0 3).bind fun q2 =>
  p_ok (q2 < p_E ∧ mK μ q2 = 20 ∧ q2 < mN μ)
  (p_ok (¬ ((v1 * (9 : Int32)) + v2) < 0 ∧ ((v1 * (9 : Int32)) + v2).toNatClampNeg < mL μ q2)
  (F_X2_goOn_c15 p_fu v0 v1 v2 (mI μ q2 ((v1 * (9 : Int32)) + v2).toNatClampNeg) (0 : Int32) μ)))
theorem E_X2_goOn {X : p_X} {d : Nat} {Q : p_R → Prop} {v0 : Nat} {v1 : Int32} {v2 : Int32} {μ : p_M} {r : Int32 × p_M} (h : F_X2_goOn v0 v1 v2 μ = some r) (hQ : Q ((0, none), r.2)) : p_Ev X (d + 1) M_X2_goOn 0 [.ref v0, .int v1, .int v2, .double 0, .double 0, .double 0, .double 0] [] μ Q := by
  unfold F_X2_goOn at h
  refine e_aload_n dX2_goOn_0 rfl ?_
  obtain ⟨h1, h⟩ := p_ok_some h
  obtain ⟨q2, hq2, h⟩ := p_bd h
  refine e_getR dX2_goOn_1 rfl rfl h1.1 h1.2 hq2 ?_
  refine e_iload_n dX2_goOn_4 rfl ?_
  refine e_bipush (v := (9 : Int32)) dX2_goOn_5 rfl ?_
  refine e_imul dX2_goOn_7 ?_
  refine e_iload_n dX2_goOn_8 rfl ?_
  refine e_iadd dX2_goOn_9 ?_
  obtain ⟨h3, h⟩ := p_ok_some h
  obtain ⟨h4, h⟩ := p_ok_some h
  refine e_iaG dX2_goOn_10 h3 h4 ?_
  refine e_istore_n dX2_goOn_11 (Nat.le_of_ble_eq_true rfl) rfl ?_
  refine e_iconst (v := (0 : Int32)) dX2_goOn_12 rfl ?_
  refine e_istore dX2_goOn_13 (Nat.le_of_ble_eq_true rfl) rfl ?_
  exact E_X2_goOn_c15 p_fu _ _ _ _ _ _ _ _ _ h hQ
/-! X2_leastSum -/
def F_X2_leastSum_c94 (K58 : Nat → Int32 → Int32 → p_M → Option (Int32 × p_M)) (K65 : Nat → Int32 → Int32 → Int32 → p_M → Option (Int32 × p_M)) (v0 : Nat) (v1 : Int32) (v2 : Int32) (v3 : Int32) (μ : p_M) : Option (Int32 × p_M) :=
  K65 v0 v1 v2 (v3 + (1 : Int32)) μ
theorem E_X2_leastSum_c94 {X : p_X} {d : Nat} {Q : p_R → Prop} {K58 : Nat → Int32 → Int32 → p_M → Option (Int32 × p_M)} {K65 : Nat → Int32 → Int32 → Int32 → p_M → Option (Int32 × p_M)} (hK58 : ∀ (v0 : Nat) (v1 : Int32) (v2 : Int32) (μ : p_M) (r : Int32 × p_M) (w3 : Value), K58 v0 v1 v2 μ = some r → Q ((0, some (.int r.1)), r.2) → p_Ev X (d + 2) M_X2_leastSum 58 [.ref v0, .int v1, .int v2, w3] [] μ Q) (hK65 : ∀ (v0 : Nat) (v1 : Int32) (v2 : Int32) (v3 : Int32) (μ : p_M) (r : Int32 × p_M), K65 v0 v1 v2 v3 μ = some r → Q ((0, some (.int r.1)), r.2) → p_Ev X (d + 2) M_X2_leastSum 65 [.ref v0, .int v1, .int v2, .int v3] [] μ Q) {v0 : Nat} {v1 : Int32} {v2 : Int32} {v3 : Int32} {μ : p_M} {r : Int32 × p_M} (h : F_X2_leastSum_c94 K58 K65 v0 v1 v2 v3 μ = some r) (hQ : Q ((0, some (.int r.1)), r.2)) : p_Ev X (d + 2) M_X2_leastSum 94 [.ref v0, .int v1, .int v2, .int v3] [] μ Q := by
  unfold F_X2_leastSum_c94 at h
  refine e_iinc (v := (1 : Int32)) dX2_leastSum_94 rfl rfl rfl ?_
  refine e_goto dX2_leastSum_97 65 (by decide) ?_
  exact hK65 _ _ _ _ _ _ h hQ
def F_X2_leastSum_c65 (K58 : Nat → Int32 → Int32 → p_M → Option (Int32 × p_M)) : Nat → Nat → Int32 → Int32 → Int32 → p_M → Option (Int32 × p_M)
  | 0, _, _, _, _, _ => none
  | n + 1, v0, v1, v2, v3, μ =>
    p_ok (mK μ v0 = 3 ∧ v0 < mN μ)
    (if (mI μ v0 2) ≤ v3
    then (K58 v0 v1 (v2 + (1 : Int32)) μ)
    else ((mR μ v0 3).bind fun q10 =>
      p_ok (q10 < p_E ∧ mK μ q10 = 20 ∧ q10 < mN μ)
      (p_ok (¬ ((v2 * (9 : Int32)) + v3) < 0 ∧ ((v2 * (9 : Int32)) + v3).toNatClampNeg < mL μ q10)
      (if (mI μ q10 ((v2 * (9 : Int32)) + v3).toNatClampNeg) = (-1)
      then (F_X2_leastSum_c94 K58 (F_X2_leastSum_c65 K58 n) v0 v1 v2 v3 μ)
      else ((F_X2_goOn v0 v2 v3 μ).bind fun q13 =>
        F_X2_leastSum_c94 K58 (F_X2_leastSum_c65 K58 n) v0 v1 v2 v3 q13.2)))))
theorem E_X2_leastSum_c65 {X : p_X} {d : Nat} {Q : p_R → Prop} {K58 : Nat → Int32 → Int32 → p_M → Option (Int32 × p_M)} (hK58 : ∀ (v0 : Nat) (v1 : Int32) (v2 : Int32) (μ : p_M) (r : Int32 × p_M) (w3 : Value), K58 v0 v1 v2 μ = some r → Q ((0, some (.int r.1)), r.2) → p_Ev X (d + 2) M_X2_leastSum 58 [.ref v0, .int v1, .int v2, w3] [] μ Q) : ∀ (n : Nat) (v0 : Nat) (v1 : Int32) (v2 : Int32) (v3 : Int32) (μ : p_M) (r : Int32 × p_M), F_X2_leastSum_c65 K58 n v0 v1 v2 v3 μ = some r → Q ((0, some (.int r.1)), r.2) → p_Ev X (d + 2) M_X2_leastSum 65 [.ref v0, .int v1, .int v2, .int v3] [] μ Q := by
  intro n
  induction n with
  | zero => intro v0 v1 v2 v3 μ r h hQ; rw [F_X2_leastSum_c65] at h; cases h
  | succ n ih =>
    intro v0 v1 v2 v3 μ r h hQ
    rw [F_X2_leastSum_c65] at h
    refine e_iload_n dX2_leastSum_65 rfl ?_
    refine e_aload_n dX2_leastSum_66 rfl ?_
    obtain ⟨h9, h⟩ := p_ok_some h
    refine e_getI dX2_leastSum_67 rfl rfl h9.1 h9.2 ?_
    refine e_ic_ge dX2_leastSum_70 100 (by decide) (fun hc => ?_) (fun hc => ?_)
    · rw [if_pos hc] at h
      refine e_iinc (v := (1 : Int32)) dX2_leastSum_100 rfl rfl rfl ?_
      refine e_goto dX2_leastSum_103 58 (by decide) ?_
      exact hK58 _ _ _ _ _ _ h hQ
    · rw [if_neg hc] at h
      refine e_aload_n dX2_leastSum_73 rfl ?_
      obtain ⟨q10, hq10, h⟩ := p_bd h
      refine e_getR dX2_leastSum_74 rfl rfl h9.1 h9.2 hq10 ?_
      refine e_iload_n dX2_leastSum_77 rfl ?_
      refine e_bipush (v := (9 : Int32)) dX2_leastSum_78 rfl ?_
      refine e_imul dX2_leastSum_80 ?_
      refine e_iload_n dX2_leastSum_81 rfl ?_
      refine e_iadd dX2_leastSum_82 ?_
      obtain ⟨h11, h⟩ := p_ok_some h
      obtain ⟨h12, h⟩ := p_ok_some h
      refine e_iaG dX2_leastSum_83 h11 h12 ?_
      refine e_iconst (v := (-1)) dX2_leastSum_84 rfl ?_
      refine e_ic_eq dX2_leastSum_85 94 (by decide) (fun hc => ?_) (fun hc => ?_)
      · rw [if_pos hc] at h
        exact E_X2_leastSum_c94 hK58 ih h hQ
      · rw [if_neg hc] at h
        refine e_aload_n dX2_leastSum_88 rfl ?_
        refine e_iload_n dX2_leastSum_89 rfl ?_
        refine e_iload_n dX2_leastSum_90 rfl ?_
        obtain ⟨q13, hq13, h⟩ := p_bd h
        refine f_cVv dX2_leastSum_91 rfl rfl ⟨rfl, rfl, by decide⟩ rfl h9 (fun Q' hQ' => E_X2_goOn hq13 hQ') ?_
        exact E_X2_leastSum_c94 hK58 ih h hQ
def F_X2_leastSum_c110 : Nat → Nat → Int32 → Int32 → Int32 → p_M → Option (Int32 × p_M)
  | 0, _, _, _, _, _ => none
  | n + 1, v0, v1, v2, v3, μ =>
    p_ok (mK μ v0 = 3 ∧ v0 < mN μ)
    (if (mI μ v0 2) ≤ v3
    then (some (v2, μ))
    else ((mR μ v0 3).bind fun q15 =>
      p_ok (q15 < p_E ∧ mK μ q15 = 20 ∧ q15 < mN μ)
      (p_ok (¬ ((v1 * (9 : Int32)) + v3) < 0 ∧ ((v1 * (9 : Int32)) + v3).toNatClampNeg < mL μ q15)
      ((F_X2_lesser v2 (mI μ q15 ((v1 * (9 : Int32)) + v3).toNatClampNeg) μ).bind fun q18 =>
      F_X2_leastSum_c110 n v0 v1 q18.1 (v3 + (1 : Int32)) q18.2))))
theorem E_X2_leastSum_c110 {X : p_X} {d : Nat} {Q : p_R → Prop} : ∀ (n : Nat) (v0 : Nat) (v1 : Int32) (v2 : Int32) (v3 : Int32) (μ : p_M) (r : Int32 × p_M), F_X2_leastSum_c110 n v0 v1 v2 v3 μ = some r → Q ((0, some (.int r.1)), r.2) → p_Ev X (d + 2) M_X2_leastSum 110 [.ref v0, .int v1, .int v2, .int v3] [] μ Q := by
  intro n
  induction n with
  | zero => intro v0 v1 v2 v3 μ r h hQ; rw [F_X2_leastSum_c110] at h; cases h
  | succ n ih =>
    intro v0 v1 v2 v3 μ r h hQ
    rw [F_X2_leastSum_c110] at h
    refine e_iload_n dX2_leastSum_110 rfl ?_
    refine e_aload_n dX2_leastSum_111 rfl ?_
    obtain ⟨h14, h⟩ := p_ok_some h
    refine e_getI dX2_leastSum_112 rfl rfl h14.1 h14.2 ?_
    refine e_ic_ge dX2_leastSum_115 140 (by decide) (fun hc => ?_) (fun hc => ?_)
    · rw [if_pos hc] at h
      refine e_iload_n dX2_leastSum_140 rfl ?_
      cases h
      exact e_ireti dX2_leastSum_141 rfl hQ
    · rw [if_neg hc] at h
      refine e_iload_n dX2_leastSum_118 rfl ?_
      refine e_aload_n dX2_leastSum_119 rfl ?_
      obtain ⟨q15, hq15, h⟩ := p_bd h
      refine e_getR dX2_leastSum_120 rfl rfl h14.1 h14.2 hq15 ?_
      refine e_iload_n dX2_leastSum_123 rfl ?_
      refine e_bipush (v := (9 : Int32)) dX2_leastSum_124 rfl ?_
      refine e_imul dX2_leastSum_126 ?_
      refine e_iload_n dX2_leastSum_127 rfl ?_
      refine e_iadd dX2_leastSum_128 ?_
      obtain ⟨h16, h⟩ := p_ok_some h
      obtain ⟨h17, h⟩ := p_ok_some h
      refine e_iaG dX2_leastSum_129 h16 h17 ?_
      obtain ⟨q18, hq18, h⟩ := p_bd h
      refine f_cSi dX2_leastSum_130 rfl rfl rfl rfl (fun Q' hQ' => E_X2_lesser hq18 hQ') ?_
      refine e_istore_n dX2_leastSum_133 (Nat.le_of_ble_eq_true rfl) rfl ?_
      refine e_iinc (v := (1 : Int32)) dX2_leastSum_134 rfl rfl rfl ?_
      refine e_goto dX2_leastSum_137 110 (by decide) ?_
      exact ih _ _ _ _ _ _ h hQ
def F_X2_leastSum_c58 : Nat → Nat → Int32 → Int32 → p_M → Option (Int32 × p_M)
  | 0, _, _, _, _ => none
  | n + 1, v0, v1, v2, μ =>
    if v1 ≤ v2
    then (F_X2_leastSum_c110 p_fu v0 v1 (-1) (0 : Int32) μ)
    else (F_X2_leastSum_c65 (F_X2_leastSum_c58 n) p_fu v0 v1 v2 (0 : Int32) μ)
theorem E_X2_leastSum_c58 {X : p_X} {d : Nat} {Q : p_R → Prop} : ∀ (n : Nat) (v0 : Nat) (v1 : Int32) (v2 : Int32) (μ : p_M) (r : Int32 × p_M) (w3 : Value), F_X2_leastSum_c58 n v0 v1 v2 μ = some r → Q ((0, some (.int r.1)), r.2) → p_Ev X (d + 2) M_X2_leastSum 58 [.ref v0, .int v1, .int v2, w3] [] μ Q := by
  intro n
  induction n with
  | zero => intro v0 v1 v2 μ r w3 h hQ; rw [F_X2_leastSum_c58] at h; cases h
  | succ n ih =>
    intro v0 v1 v2 μ r w3 h hQ
    rw [F_X2_leastSum_c58] at h
    refine e_iload_n dX2_leastSum_58 rfl ?_
    refine e_iload_n dX2_leastSum_59 rfl ?_
    refine e_ic_ge dX2_leastSum_60 106 (by decide) (fun hc => ?_) (fun hc => ?_)
    · rw [if_pos hc] at h
      refine e_iconst (v := (-1)) dX2_leastSum_106 rfl ?_
      refine e_istore_n dX2_leastSum_107 (Nat.le_of_ble_eq_true rfl) rfl ?_
      refine e_iconst (v := (0 : Int32)) dX2_leastSum_108 rfl ?_
      refine e_istore_n dX2_leastSum_109 (Nat.le_of_ble_eq_true rfl) rfl ?_
      exact E_X2_leastSum_c110 p_fu _ _ _ _ _ _ h hQ
    · rw [if_neg hc] at h
      refine e_iconst (v := (0 : Int32)) dX2_leastSum_63 rfl ?_
      refine e_istore_n dX2_leastSum_64 (Nat.le_of_ble_eq_true rfl) rfl ?_
      exact E_X2_leastSum_c65 ih p_fu _ _ _ _ _ _ h hQ
def F_X2_leastSum_c19 : Nat → Nat → Int32 → p_M → Option (Int32 × p_M)
  | 0, _, _, _ => none
  | n + 1, v0, v1, μ =>
    p_ok (mK μ v0 = 3 ∧ v0 < mN μ)
    (if (mI μ v0 2) ≤ v1
    then (F_X2_leastSum_c58 p_fu v0 (((1 : Int32) <<< ((mI μ v0 2) &&& 31)) - (1 : Int32)) (1 : Int32) μ)
    else ((mR μ v0 3).bind fun q5 =>
      p_ok (q5 < p_E ∧ mK μ q5 = 20 ∧ q5 < mN μ)
      (p_ok (¬ ((((1 : Int32) <<< (v1 &&& 31)) * (9 : Int32)) + v1) < 0 ∧ ((((1 : Int32) <<< (v1 &&& 31)) * (9 : Int32)) + v1).toNatClampNeg < mL μ q5)
      (p_let (sI μ q5 ((((1 : Int32) <<< (v1 &&& 31)) * (9 : Int32)) + v1).toNatClampNeg (0 : Int32)) fun m8 =>
      F_X2_leastSum_c19 n v0 (v1 + (1 : Int32)) m8))))
theorem E_X2_leastSum_c19 {X : p_X} {d : Nat} {Q : p_R → Prop} : ∀ (n : Nat) (v0 : Nat) (v1 : Int32) (μ : p_M) (r : Int32 × p_M) (w2 : Value) (w3 : Value), F_X2_leastSum_c19 n v0 v1 μ = some r → Q ((0, some (.int r.1)), r.2) → p_Ev X (d + 2) M_X2_leastSum 19 [.ref v0, .int v1, w2, w3] [] μ Q := by
  intro n
  induction n with
  | zero => intro v0 v1 μ r w2 w3 h hQ; rw [F_X2_leastSum_c19] at h; cases h
  | succ n ih =>
    intro v0 v1 μ r w2 w3 h hQ
    rw [F_X2_leastSum_c19] at h
    refine e_iload_n dX2_leastSum_19 rfl ?_
    refine e_aload_n dX2_leastSum_20 rfl ?_
    obtain ⟨h4, h⟩ := p_ok_some h
    refine e_getI dX2_leastSum_21 rfl rfl h4.1 h4.2 ?_
    refine e_ic_ge dX2_leastSum_24 47 (by decide) (fun hc => ?_) (fun hc => ?_)
    · rw [if_pos hc] at h
      refine e_iconst (v := (1 : Int32)) dX2_leastSum_47 rfl ?_
      refine e_aload_n dX2_leastSum_48 rfl ?_
      refine e_getI dX2_leastSum_49 rfl rfl h4.1 h4.2 ?_
      refine e_ishl dX2_leastSum_52 ?_
      refine e_iconst (v := (1 : Int32)) dX2_leastSum_53 rfl ?_
      refine e_isub dX2_leastSum_54 ?_
      refine e_istore_n dX2_leastSum_55 (Nat.le_of_ble_eq_true rfl) rfl ?_
      refine e_iconst (v := (1 : Int32)) dX2_leastSum_56 rfl ?_
      refine e_istore_n dX2_leastSum_57 (Nat.le_of_ble_eq_true rfl) rfl ?_
      exact E_X2_leastSum_c58 p_fu _ _ _ _ _ _ h hQ
    · rw [if_neg hc] at h
      refine e_aload_n dX2_leastSum_27 rfl ?_
      obtain ⟨q5, hq5, h⟩ := p_bd h
      refine e_getR dX2_leastSum_28 rfl rfl h4.1 h4.2 hq5 ?_
      refine e_iconst (v := (1 : Int32)) dX2_leastSum_31 rfl ?_
      refine e_iload_n dX2_leastSum_32 rfl ?_
      refine e_ishl dX2_leastSum_33 ?_
      refine e_bipush (v := (9 : Int32)) dX2_leastSum_34 rfl ?_
      refine e_imul dX2_leastSum_36 ?_
      refine e_iload_n dX2_leastSum_37 rfl ?_
      refine e_iadd dX2_leastSum_38 ?_
      refine e_iconst (v := (0 : Int32)) dX2_leastSum_39 rfl ?_
      obtain ⟨h6, h⟩ := p_ok_some h
      obtain ⟨h7, h⟩ := p_ok_some h
      replace h := p_lt h
      refine e_iaS dX2_leastSum_40 h6 h7 ?_
      refine e_iinc (v := (1 : Int32)) dX2_leastSum_41 rfl rfl rfl ?_
      refine e_goto dX2_leastSum_44 19 (by decide) ?_
      exact ih _ _ _ _ _ _ h hQ
def F_X2_leastSum (v0 : Nat) (μ : p_M) : Option (Int32 × p_M) :=
  p_ok (mK μ v0 = 3 ∧ v0 < mN μ)
  (if ¬ (mI μ v0 2) = 0
  then ((mR μ v0 3).bind fun q2 =>
    (F_J7_fill_53178 q2 (-1) μ).bind fun q3 =>
    F_X2_leastSum_c19 p_fu v0 (0 : Int32) q3.2)
  else (some ((0 : Int32), μ)))
theorem E_X2_leastSum {X : p_X} {d : Nat} {Q : p_R → Prop} {v0 : Nat} {μ : p_M} {r : Int32 × p_M} (h : F_X2_leastSum v0 μ = some r) (hQ : Q ((0, some (.int r.1)), r.2)) : p_Ev X (d + 2) M_X2_leastSum 0 [.ref v0, .double 0, .double 0, .double 0] [] μ Q := by
  unfold F_X2_leastSum at h
  refine e_aload_n dX2_leastSum_0 rfl ?_
  obtain ⟨h1, h⟩ := p_ok_some h
  refine e_getI dX2_leastSum_1 rfl rfl h1.1 h1.2 ?_
  refine e_if_ne dX2_leastSum_4 9 (by decide) (fun hc => ?_) (fun hc => ?_)
  · rw [if_pos hc] at h
    refine e_aload_n dX2_leastSum_9 rfl ?_
    obtain ⟨q2, hq2, h⟩ := p_bd h
    refine e_getR dX2_leastSum_10 rfl rfl h1.1 h1.2 hq2 ?_
    refine e_iconst (v := (-1)) dX2_leastSum_13 rfl ?_
    obtain ⟨q3, hq3, h⟩ := p_bd h
    refine f_cSv dX2_leastSum_14 rfl rfl rfl rfl (fun Q' hQ' => E_J7_fill_53178 hq3 hQ') ?_
    refine e_iconst (v := (0 : Int32)) dX2_leastSum_17 rfl ?_
    refine e_istore_n dX2_leastSum_18 (Nat.le_of_ble_eq_true rfl) rfl ?_
    exact E_X2_leastSum_c19 p_fu _ _ _ _ _ _ h hQ
  · rw [if_neg hc] at h
    refine e_iconst (v := (0 : Int32)) dX2_leastSum_7 rfl ?_
    cases h
    exact e_ireti dX2_leastSum_8 rfl hQ
