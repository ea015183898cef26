/-! X12_led -/
def F_X12_led_c169 (s0 : Int32) (μ : p_M) : Option (Nat × Int32 × p_M) :=
  some (0, s0, μ)
theorem E_X12_led_c169 {X : p_X} {d : Nat} {Q : p_R → Prop} {s0 : Int32} {w0 : Value} {w1 : Value} {w2 : Value} {w3 : Value} {μ : p_M} {r : Nat × Int32 × p_M} (h : F_X12_led_c169 s0 μ = some r) (hQ : Q (tI r)) : p_Ev X (d + 2) M_X12_led 169 [w0, w1, w2, w3] [.int s0] μ Q := by
  unfold F_X12_led_c169 at h
  cases h
  exact e_ireti dX12_led_169 rfl hQ
def F_X12_led (v0 : Nat) (v1 : Int32) (v2 : Int32) (μ : p_M) : Option (Nat × Int32 × p_M) :=
  p_ok (mK μ v0 = 13 ∧ v0 < mN μ)
  ((F_X12_lotAt v0 v1 μ).bind fun q1 =>
  if q1.1 = 0
  then ((F_X12_needWhat v2 (15 : Int32) q1.2.2).bind fun q3 =>
    if q3.1 = 0
    then (if v2.toInt < 0 ∨ 15 < v2.toInt then (p_ok (mK q3.2.2 q1.2.1 = 5 ∧ q1.2.1 < mN q3.2.2)
        ((mR q3.2.2 q1.2.1 8).bind fun q43 =>
        p_ok (mK q3.2.2 q43 = 4 ∧ q43 < mN q3.2.2)
        ((F_X3_part q43 (v2 - (5 : Int32)) q3.2.2).bind fun q44 =>
        some (0, q44.1, q44.2))))
      else if v2 = 0 then (p_ok (mK q3.2.2 q1.2.1 = 5 ∧ q1.2.1 < mN q3.2.2)
        (some (0, (mI q3.2.2 q1.2.1 9), q3.2.2)))
      else if v2 = 1 then (p_ok (mK q3.2.2 q1.2.1 = 5 ∧ q1.2.1 < mN q3.2.2)
        (some (0, (mI q3.2.2 q1.2.1 10), q3.2.2)))
      else if v2 = 2 then (p_ok (mK q3.2.2 q1.2.1 = 5 ∧ q1.2.1 < mN q3.2.2)
        (some (0, (mI q3.2.2 q1.2.1 11), q3.2.2)))
      else if v2 = 3 then (p_ok (mK q3.2.2 q1.2.1 = 5 ∧ q1.2.1 < mN q3.2.2)
        ((mR q3.2.2 q1.2.1 7).bind fun q8 =>
        p_ok (mK q3.2.2 q8 = 9 ∧ q8 < mN q3.2.2)
        (some (0, (mI q3.2.2 q8 2), q3.2.2))))
      else if v2 = 4 then (p_ok (mK q3.2.2 q1.2.1 = 5 ∧ q1.2.1 < mN q3.2.2)
        (some (0, (mI q3.2.2 q1.2.1 12), q3.2.2)))
      else if v2 = 5 then (p_ok (mK q3.2.2 q1.2.1 = 5 ∧ q1.2.1 < mN q3.2.2)
        ((mR q3.2.2 q1.2.1 8).bind fun q12 =>
        p_ok (mK q3.2.2 q12 = 4 ∧ q12 < mN q3.2.2)
        ((F_X3_part q12 (v2 - (5 : Int32)) q3.2.2).bind fun q13 =>
        some (0, q13.1, q13.2))))
      else if v2 = 6 then (p_ok (mK q3.2.2 q1.2.1 = 5 ∧ q1.2.1 < mN q3.2.2)
        ((mR q3.2.2 q1.2.1 8).bind fun q16 =>
        p_ok (mK q3.2.2 q16 = 4 ∧ q16 < mN q3.2.2)
        ((F_X3_part q16 (v2 - (5 : Int32)) q3.2.2).bind fun q17 =>
        some (0, q17.1, q17.2))))
      else if v2 = 7 then (p_ok (mK q3.2.2 q1.2.1 = 5 ∧ q1.2.1 < mN q3.2.2)
        ((mR q3.2.2 q1.2.1 8).bind fun q20 =>
        p_ok (mK q3.2.2 q20 = 4 ∧ q20 < mN q3.2.2)
        ((F_X3_part q20 (v2 - (5 : Int32)) q3.2.2).bind fun q21 =>
        some (0, q21.1, q21.2))))
      else if v2 = 8 then (p_ok (mK q3.2.2 q1.2.1 = 5 ∧ q1.2.1 < mN q3.2.2)
        ((mR q3.2.2 q1.2.1 8).bind fun q24 =>
        p_ok (mK q3.2.2 q24 = 4 ∧ q24 < mN q3.2.2)
        ((F_X3_part q24 (v2 - (5 : Int32)) q3.2.2).bind fun q25 =>
        some (0, q25.1, q25.2))))
      else if v2 = 9 then (p_ok (mK q3.2.2 q1.2.1 = 5 ∧ q1.2.1 < mN q3.2.2)
        ((mR q3.2.2 q1.2.1 8).bind fun q28 =>
        p_ok (mK q3.2.2 q28 = 4 ∧ q28 < mN q3.2.2)
        ((F_X3_part q28 (v2 - (5 : Int32)) q3.2.2).bind fun q29 =>
        some (0, q29.1, q29.2))))
      else if v2 = 10 then (p_ok (mK q3.2.2 q1.2.1 = 5 ∧ q1.2.1 < mN q3.2.2)
        (some (0, (mI q3.2.2 q1.2.1 13), q3.2.2)))
      else if v2 = 11 then (p_ok (mK q3.2.2 q1.2.1 = 5 ∧ q1.2.1 < mN q3.2.2)
        (some (0, (mI q3.2.2 q1.2.1 1), q3.2.2)))
      else if v2 = 12 then (p_ok (mK q3.2.2 q1.2.1 = 5 ∧ q1.2.1 < mN q3.2.2)
        ((F_X4_countPlaced q1.2.1 (0 : Int32) q3.2.2).bind fun q33 =>
        some (0, q33.1, q33.2)))
      else if v2 = 13 then (p_ok (mK q3.2.2 q1.2.1 = 5 ∧ q1.2.1 < mN q3.2.2)
        ((F_X4_countPlaced q1.2.1 (2 : Int32) q3.2.2).bind fun q35 =>
        some (0, q35.1, q35.2)))
      else if v2 = 14 then (p_ok (mK q3.2.2 q1.2.1 = 5 ∧ q1.2.1 < mN q3.2.2)
        ((mR q3.2.2 q1.2.1 8).bind fun q38 =>
        p_ok (mK q3.2.2 q38 = 4 ∧ q38 < mN q3.2.2)
        ((F_X3_surelyMeets q38 (mI q3.2.2 q1.2.1 4) (mI q3.2.2 q1.2.1 5) (mI q3.2.2 q1.2.1 6) q3.2.2).bind fun q39 =>
        if q39.1 = 0
        then (F_X12_led_c169 (0 : Int32) q39.2)
        else (F_X12_led_c169 (1 : Int32) q39.2))))
      else if v2 = 15 then (p_ok (mK q3.2.2 q1.2.1 = 5 ∧ q1.2.1 < mN q3.2.2)
        (some (0, (mI q3.2.2 q1.2.1 0), q3.2.2)))
      else none)
    else (some (q3.1, 0, q3.2.2)))
  else (some (q1.1, 0, q1.2.2)))
theorem E_X12_led {X : p_X} {d : Nat} {Q : p_R → Prop} {v0 : Nat} {v1 : Int32} {v2 : Int32} {μ : p_M} {r : Nat × Int32 × p_M} (h : F_X12_led v0 v1 v2 μ = some r) (hQ : Q (tI r)) : p_Ev X (d + 2) M_X12_led 0 [.ref v0, .int v1, .int v2, .double 0] [] μ Q := by
  unfold F_X12_led at h
  refine e_aload_n dX12_led_0 rfl ?_
  refine e_iload_n dX12_led_1 rfl ?_
  obtain ⟨h2, h⟩ := p_ok_some h
  obtain ⟨q1, hq1, h⟩ := p_bd h
  refine f_tVr dX12_led_2 rfl rfl ⟨rfl, rfl, by decide⟩ rfl h2 (by decide) rfl (fun Q' hQ' => E_X12_lotAt hq1 hQ') (fun hc => ?_) (fun hc => ?_)
  · rw [if_pos hc] at h
    refine e_astore_n dX12_led_5 (Nat.le_of_ble_eq_true rfl) rfl ?_
    refine e_iload_n dX12_led_6 rfl ?_
    refine e_bipush (v := (15 : Int32)) dX12_led_7 rfl ?_
    obtain ⟨q3, hq3, h⟩ := p_bd h
    refine f_tSv dX12_led_9 rfl rfl rfl rfl (by decide) rfl (fun Q' hQ' => E_X12_needWhat hq3 hQ') (fun hc => ?_) (fun hc => ?_)
    · rw [if_pos hc] at h
      refine e_iload_n dX12_led_12 rfl ?_
      by_cases hc : v2.toInt < 0 ∨ 15 < v2.toInt
      · rw [if_pos hc] at h
        refine e_swD dX12_led_13 hc 175 (by decide) ?_
        refine e_aload_n dX12_led_175 rfl ?_
        obtain ⟨h42, h⟩ := p_ok_some h
        obtain ⟨q43, hq43, h⟩ := p_bd h
        refine e_getR dX12_led_176 rfl rfl h42.1 h42.2 hq43 ?_
        refine e_iload_n dX12_led_179 rfl ?_
        refine e_iconst (v := (5 : Int32)) dX12_led_180 rfl ?_
        refine e_isub dX12_led_181 ?_
        obtain ⟨h45, h⟩ := p_ok_some h
        obtain ⟨q44, hq44, h⟩ := p_bd h
        refine f_cVi dX12_led_182 rfl rfl ⟨rfl, rfl, by decide⟩ rfl h45 (fun Q' hQ' => E_X3_part hq44 hQ') ?_
        cases h
        exact e_ireti dX12_led_185 rfl hQ
      rw [if_neg hc] at h
      by_cases hc : v2 = 0
      · rw [if_pos hc] at h
        refine e_swK (v := 0) dX12_led_13 hc (by decide) rfl 92 (by decide) ?_
        refine e_aload_n dX12_led_92 rfl ?_
        obtain ⟨h4, h⟩ := p_ok_some h
        refine e_getI dX12_led_93 rfl rfl h4.1 h4.2 ?_
        cases h
        exact e_ireti dX12_led_96 rfl hQ
      rw [if_neg hc] at h
      by_cases hc : v2 = 1
      · rw [if_pos hc] at h
        refine e_swK (v := 1) dX12_led_13 hc (by decide) rfl 97 (by decide) ?_
        refine e_aload_n dX12_led_97 rfl ?_
        obtain ⟨h5, h⟩ := p_ok_some h
        refine e_getI dX12_led_98 rfl rfl h5.1 h5.2 ?_
        cases h
        exact e_ireti dX12_led_101 rfl hQ
      rw [if_neg hc] at h
      by_cases hc : v2 = 2
      · rw [if_pos hc] at h
        refine e_swK (v := 2) dX12_led_13 hc (by decide) rfl 102 (by decide) ?_
        refine e_aload_n dX12_led_102 rfl ?_
        obtain ⟨h6, h⟩ := p_ok_some h
        refine e_getI dX12_led_103 rfl rfl h6.1 h6.2 ?_
        cases h
        exact e_ireti dX12_led_106 rfl hQ
      rw [if_neg hc] at h
      by_cases hc : v2 = 3
      · rw [if_pos hc] at h
        refine e_swK (v := 3) dX12_led_13 hc (by decide) rfl 107 (by decide) ?_
        refine e_aload_n dX12_led_107 rfl ?_
        obtain ⟨h7, h⟩ := p_ok_some h
        obtain ⟨q8, hq8, h⟩ := p_bd h
        refine e_getR dX12_led_108 rfl rfl h7.1 h7.2 hq8 ?_
        obtain ⟨h9, h⟩ := p_ok_some h
        refine e_getI dX12_led_111 rfl rfl h9.1 h9.2 ?_
        cases h
        exact e_ireti dX12_led_114 rfl hQ
      rw [if_neg hc] at h
      by_cases hc : v2 = 4
      · rw [if_pos hc] at h
        refine e_swK (v := 4) dX12_led_13 hc (by decide) rfl 115 (by decide) ?_
        refine e_aload_n dX12_led_115 rfl ?_
        obtain ⟨h10, h⟩ := p_ok_some h
        refine e_getI dX12_led_116 rfl rfl h10.1 h10.2 ?_
        cases h
        exact e_ireti dX12_led_119 rfl hQ
      rw [if_neg hc] at h
      by_cases hc : v2 = 5
      · rw [if_pos hc] at h
        refine e_swK (v := 5) dX12_led_13 hc (by decide) rfl 175 (by decide) ?_
        refine e_aload_n dX12_led_175 rfl ?_
        obtain ⟨h11, h⟩ := p_ok_some h
        obtain ⟨q12, hq12, h⟩ := p_bd h
        refine e_getR dX12_led_176 rfl rfl h11.1 h11.2 hq12 ?_
        refine e_iload_n dX12_led_179 rfl ?_
        refine e_iconst (v := (5 : Int32)) dX12_led_180 rfl ?_
        refine e_isub dX12_led_181 ?_
        obtain ⟨h14, h⟩ := p_ok_some h
        obtain ⟨q13, hq13, h⟩ := p_bd h
        refine f_cVi dX12_led_182 rfl rfl ⟨rfl, rfl, by decide⟩ rfl h14 (fun Q' hQ' => E_X3_part hq13 hQ') ?_
        cases h
        exact e_ireti dX12_led_185 rfl hQ
      rw [if_neg hc] at h
      by_cases hc : v2 = 6
      · rw [if_pos hc] at h
        refine e_swK (v := 6) dX12_led_13 hc (by decide) rfl 175 (by decide) ?_
        refine e_aload_n dX12_led_175 rfl ?_
        obtain ⟨h15, h⟩ := p_ok_some h
        obtain ⟨q16, hq16, h⟩ := p_bd h
        refine e_getR dX12_led_176 rfl rfl h15.1 h15.2 hq16 ?_
        refine e_iload_n dX12_led_179 rfl ?_
        refine e_iconst (v := (5 : Int32)) dX12_led_180 rfl ?_
        refine e_isub dX12_led_181 ?_
        obtain ⟨h18, h⟩ := p_ok_some h
        obtain ⟨q17, hq17, h⟩ := p_bd h
        refine f_cVi dX12_led_182 rfl rfl ⟨rfl, rfl, by decide⟩ rfl h18 (fun Q' hQ' => E_X3_part hq17 hQ') ?_
        cases h
        exact e_ireti dX12_led_185 rfl hQ
      rw [if_neg hc] at h
      by_cases hc : v2 = 7
      · rw [if_pos hc] at h
        refine e_swK (v := 7) dX12_led_13 hc (by decide) rfl 175 (by decide) ?_
        refine e_aload_n dX12_led_175 rfl ?_
        obtain ⟨h19, h⟩ := p_ok_some h
        obtain ⟨q20, hq20, h⟩ := p_bd h
        refine e_getR dX12_led_176 rfl rfl h19.1 h19.2 hq20 ?_
        refine e_iload_n dX12_led_179 rfl ?_
        refine e_iconst (v := (5 : Int32)) dX12_led_180 rfl ?_
        refine e_isub dX12_led_181 ?_
        obtain ⟨h22, h⟩ := p_ok_some h
        obtain ⟨q21, hq21, h⟩ := p_bd h
        refine f_cVi dX12_led_182 rfl rfl ⟨rfl, rfl, by decide⟩ rfl h22 (fun Q' hQ' => E_X3_part hq21 hQ') ?_
        cases h
        exact e_ireti dX12_led_185 rfl hQ
      rw [if_neg hc] at h
      by_cases hc : v2 = 8
      · rw [if_pos hc] at h
        refine e_swK (v := 8) dX12_led_13 hc (by decide) rfl 175 (by decide) ?_
        refine e_aload_n dX12_led_175 rfl ?_
        obtain ⟨h23, h⟩ := p_ok_some h
        obtain ⟨q24, hq24, h⟩ := p_bd h
        refine e_getR dX12_led_176 rfl rfl h23.1 h23.2 hq24 ?_
        refine e_iload_n dX12_led_179 rfl ?_
        refine e_iconst (v := (5 : Int32)) dX12_led_180 rfl ?_
        refine e_isub dX12_led_181 ?_
        obtain ⟨h26, h⟩ := p_ok_some h
        obtain ⟨q25, hq25, h⟩ := p_bd h
        refine f_cVi dX12_led_182 rfl rfl ⟨rfl, rfl, by decide⟩ rfl h26 (fun Q' hQ' => E_X3_part hq25 hQ') ?_
        cases h
        exact e_ireti dX12_led_185 rfl hQ
      rw [if_neg hc] at h
      by_cases hc : v2 = 9
      · rw [if_pos hc] at h
        refine e_swK (v := 9) dX12_led_13 hc (by decide) rfl 175 (by decide) ?_
        refine e_aload_n dX12_led_175 rfl ?_
        obtain ⟨h27, h⟩ := p_ok_some h
        obtain ⟨q28, hq28, h⟩ := p_bd h
        refine e_getR dX12_led_176 rfl rfl h27.1 h27.2 hq28 ?_
        refine e_iload_n dX12_led_179 rfl ?_
        refine e_iconst (v := (5 : Int32)) dX12_led_180 rfl ?_
        refine e_isub dX12_led_181 ?_
        obtain ⟨h30, h⟩ := p_ok_some h
        obtain ⟨q29, hq29, h⟩ := p_bd h
        refine f_cVi dX12_led_182 rfl rfl ⟨rfl, rfl, by decide⟩ rfl h30 (fun Q' hQ' => E_X3_part hq29 hQ') ?_
        cases h
        exact e_ireti dX12_led_185 rfl hQ
      rw [if_neg hc] at h
      by_cases hc : v2 = 10
      · rw [if_pos hc] at h
        refine e_swK (v := 10) dX12_led_13 hc (by decide) rfl 120 (by decide) ?_
        refine e_aload_n dX12_led_120 rfl ?_
        obtain ⟨h31, h⟩ := p_ok_some h
        refine e_getI dX12_led_121 rfl rfl h31.1 h31.2 ?_
        cases h
        exact e_ireti dX12_led_124 rfl hQ
      rw [if_neg hc] at h
      by_cases hc : v2 = 11
      · rw [if_pos hc] at h
        refine e_swK (v := 11) dX12_led_13 hc (by decide) rfl 125 (by decide) ?_
        refine e_aload_n dX12_led_125 rfl ?_
        obtain ⟨h32, h⟩ := p_ok_some h
        refine e_getI dX12_led_126 rfl rfl h32.1 h32.2 ?_
        cases h
        exact e_ireti dX12_led_129 rfl hQ
      rw [if_neg hc] at h
      by_cases hc : v2 = 12
      · rw [if_pos hc] at h
        refine e_swK (v := 12) dX12_led_13 hc (by decide) rfl 130 (by decide) ?_
        refine e_aload_n dX12_led_130 rfl ?_
        refine e_iconst (v := (0 : Int32)) dX12_led_131 rfl ?_
        obtain ⟨h34, h⟩ := p_ok_some h
        obtain ⟨q33, hq33, h⟩ := p_bd h
        refine f_cVi dX12_led_132 rfl rfl ⟨rfl, rfl, by decide⟩ rfl h34 (fun Q' hQ' => E_X4_countPlaced hq33 hQ') ?_
        cases h
        exact e_ireti dX12_led_135 rfl hQ
      rw [if_neg hc] at h
      by_cases hc : v2 = 13
      · rw [if_pos hc] at h
        refine e_swK (v := 13) dX12_led_13 hc (by decide) rfl 136 (by decide) ?_
        refine e_aload_n dX12_led_136 rfl ?_
        refine e_iconst (v := (2 : Int32)) dX12_led_137 rfl ?_
        obtain ⟨h36, h⟩ := p_ok_some h
        obtain ⟨q35, hq35, h⟩ := p_bd h
        refine f_cVi dX12_led_138 rfl rfl ⟨rfl, rfl, by decide⟩ rfl h36 (fun Q' hQ' => E_X4_countPlaced hq35 hQ') ?_
        cases h
        exact e_ireti dX12_led_141 rfl hQ
      rw [if_neg hc] at h
      by_cases hc : v2 = 14
      · rw [if_pos hc] at h
        refine e_swK (v := 14) dX12_led_13 hc (by decide) rfl 142 (by decide) ?_
        refine e_aload_n dX12_led_142 rfl ?_
        obtain ⟨h37, h⟩ := p_ok_some h
        obtain ⟨q38, hq38, h⟩ := p_bd h
        refine e_getR dX12_led_143 rfl rfl h37.1 h37.2 hq38 ?_
        refine e_aload_n dX12_led_146 rfl ?_
        refine e_getI dX12_led_147 rfl rfl h37.1 h37.2 ?_
        refine e_aload_n dX12_led_150 rfl ?_
        refine e_getI dX12_led_151 rfl rfl h37.1 h37.2 ?_
        refine e_aload_n dX12_led_154 rfl ?_
        refine e_getI dX12_led_155 rfl rfl h37.1 h37.2 ?_
        obtain ⟨h40, h⟩ := p_ok_some h
        obtain ⟨q39, hq39, h⟩ := p_bd h
        refine f_cVi dX12_led_158 rfl rfl ⟨rfl, rfl, by decide⟩ rfl h40 (fun Q' hQ' => E_X3_surelyMeets hq39 hQ') ?_
        refine e_if_eq dX12_led_161 168 (by decide) (fun hc => ?_) (fun hc => ?_)
        · rw [if_pos hc] at h
          refine e_iconst (v := (0 : Int32)) dX12_led_168 rfl ?_
          exact E_X12_led_c169 h hQ
        · rw [if_neg hc] at h
          refine e_iconst (v := (1 : Int32)) dX12_led_164 rfl ?_
          refine e_goto dX12_led_165 169 (by decide) ?_
          exact E_X12_led_c169 h hQ
      rw [if_neg hc] at h
      by_cases hc : v2 = 15
      · rw [if_pos hc] at h
        refine e_swK (v := 15) dX12_led_13 hc (by decide) rfl 170 (by decide) ?_
        refine e_aload_n dX12_led_170 rfl ?_
        obtain ⟨h41, h⟩ := p_ok_some h
        refine e_getI dX12_led_171 rfl rfl h41.1 h41.2 ?_
        cases h
        exact e_ireti dX12_led_174 rfl hQ
      rw [if_neg hc] at h
      cases h
    · rw [if_neg hc] at h
      cases h
      exact tI_E hc hQ
  · rw [if_neg hc] at h
    cases h
    exact tI_E hc hQ
/-! L_led -/
def F_L_led (v0 : Nat) (v1 : Int32) (v2 : Int32) (v3 : Nat) (μ : p_M) : Option (Int32 × p_M) :=
  p_ok (mK μ v0 = 13 ∧ v0 < mN μ)
  ((F_X12_led v0 v1 v2 μ).bind fun q1 =>
  if q1.1 = 0
  then (p_ok (mK q1.2.2 v3 = 22 ∧ ¬ (0 : Int32) < 0 ∧ (0 : Int32).toNatClampNeg < mL q1.2.2 v3 ∧ v3 < mN q1.2.2)
    (p_let (sJ q1.2.2 v3 (0 : Int32).toNatClampNeg q1.2.1.toInt64) fun m4 =>
    some ((0 : Int32), m4)))
  else if q1.1 = 3 then (some ((1 : Int32), q1.2.2))
  else if q1.1 = 4 then (some ((2 : Int32), q1.2.2))
  else none)
theorem E_L_led {X : p_X} {d : Nat} {Q : p_R → Prop} {v0 : Nat} {v1 : Int32} {v2 : Int32} {v3 : Nat} {μ : p_M} {r : Int32 × p_M} (h : F_L_led v0 v1 v2 v3 μ = some r) (hQ : Q ((0, some (.int r.1)), r.2)) : p_Ev X (d + 3) M_L_led 0 [.ref v0, .int v1, .int v2, .ref v3, .double 0] [] μ Q := by
  unfold F_L_led at h
  refine e_aload_n dL_led_0 rfl ?_
  refine e_iconst (v := (0 : Int32)) dL_led_1 rfl ?_
  refine e_aload_n dL_led_2 rfl ?_
  refine e_iload_n dL_led_3 rfl ?_
  refine e_iload_n dL_led_4 rfl ?_
  obtain ⟨h2, h⟩ := p_ok_some h
  obtain ⟨q1, hq1, h⟩ := p_bd h
  refine f_hVi dL_led_5 rfl rfl ⟨rfl, rfl, by decide⟩ rfl h2 (by decide) (fun Q' hQ' => E_X12_led hq1 hQ') (fun hc => ?_) (fun hc => ?_)
  · rw [if_pos hc] at h
    refine e_i2l dL_led_8 ?_
    obtain ⟨h3, h⟩ := p_ok_some h
    replace h := p_lt h
    refine e_laS dL_led_9 h3 ?_
    refine e_goto dL_led_10 21 (by decide) ?_
    refine e_iconst (v := (0 : Int32)) dL_led_21 rfl ?_
    cases h
    exact e_ireti dL_led_22 rfl hQ
  · rw [if_neg hc] at h
    by_cases hc : q1.1 = 3
    · rw [if_pos hc] at h
      refine ⟨13, by rw [hc]; rfl, ?_⟩
      refine e_astZ dL_led_13 (Nat.le_of_ble_eq_true rfl) rfl ?_
      refine e_iconst (v := (1 : Int32)) dL_led_15 rfl ?_
      cases h
      exact e_ireti dL_led_16 rfl hQ
    rw [if_neg hc] at h
    by_cases hc : q1.1 = 4
    · rw [if_pos hc] at h
      refine ⟨17, by rw [hc]; rfl, ?_⟩
      refine e_astZ dL_led_17 (Nat.le_of_ble_eq_true rfl) rfl ?_
      refine e_iconst (v := (2 : Int32)) dL_led_19 rfl ?_
      cases h
      exact e_ireti dL_led_20 rfl hQ
    rw [if_neg hc] at h
    cases h
/-! X5_enqueue -/
def F_X5_enqueue_c32 (μ : p_M) : Option (Int32 × p_M) :=
  some (0, μ)
theorem E_X5_enqueue_c32 {X : p_X} {d : Nat} {Q : p_R → Prop} {w0 : Value} {w1 : Value} {μ : p_M} {r : Int32 × p_M} (h : F_X5_enqueue_c32 μ = some r) (hQ : Q ((0, none), r.2)) : p_Ev X (d + 0) M_X5_enqueue 32 [w0, w1] [] μ Q := by
  unfold F_X5_enqueue_c32 at h
  cases h
  exact e_vret dX5_enqueue_32 rfl hQ
def F_X5_enqueue (v0 : Nat) (v1 : Int32) (μ : p_M) : Option (Int32 × p_M) :=
  p_ok (mK μ v0 = 6 ∧ v0 < mN μ)
  ((mR μ v0 1).bind fun q2 =>
  p_ok (q2 < p_E ∧ 20 ≤ mK μ q2 ∧ mK μ q2 ≤ 26 ∧ q2 < mN μ)
  (if (nI (mL μ q2)) ≤ (mI μ v0 2)
  then (F_X5_enqueue_c32 μ)
  else (p_ok (q2 < p_E ∧ mK μ q2 = 20 ∧ q2 < mN μ)
    (p_ok (¬ (mI μ v0 2) < 0 ∧ (mI μ v0 2).toNatClampNeg < mL μ q2)
    (p_let (sI μ q2 (mI μ v0 2).toNatClampNeg v1) fun m6 =>
    p_let (sI m6 v0 2 ((mI m6 v0 2) + (1 : Int32))) fun m7 =>
    F_X5_enqueue_c32 m7)))))
theorem E_X5_enqueue {X : p_X} {d : Nat} {Q : p_R → Prop} {v0 : Nat} {v1 : Int32} {μ : p_M} {r : Int32 × p_M} (h : F_X5_enqueue v0 v1 μ = some r) (hQ : Q ((0, none), r.2)) : p_Ev X (d + 0) M_X5_enqueue 0 [.ref v0, .int v1] [] μ Q := by
  unfold F_X5_enqueue at h
  refine e_aload_n dX5_enqueue_0 rfl ?_
  obtain ⟨h1, h⟩ := p_ok_some h
  refine e_getI dX5_enqueue_1 rfl rfl h1.1 h1.2 ?_
  refine e_aload_n dX5_enqueue_4 rfl ?_
  obtain ⟨q2, hq2, h⟩ := p_bd h
  refine e_getR dX5_enqueue_5 rfl rfl h1.1 h1.2 hq2 ?_
  obtain ⟨h3, h⟩ := p_ok_some h
  refine e_alen dX5_enqueue_8 h3 ?_
  refine e_ic_ge dX5_enqueue_9 32 (by decide) (fun hc => ?_) (fun hc => ?_)
  · rw [if_pos hc] at h
    exact E_X5_enqueue_c32 h hQ
  · rw [if_neg hc] at h
    refine e_aload_n dX5_enqueue_12 rfl ?_
    refine e_getR dX5_enqueue_13 rfl rfl h1.1 h1.2 hq2 ?_
    refine e_aload_n dX5_enqueue_16 rfl ?_
    refine e_getI dX5_enqueue_17 rfl rfl h1.1 h1.2 ?_
    refine e_iload_n dX5_enqueue_20 rfl ?_
    obtain ⟨h4, h⟩ := p_ok_some h
    obtain ⟨h5, h⟩ := p_ok_some h
    replace h := p_lt h
    refine e_iaS dX5_enqueue_21 h4 h5 ?_
    refine e_aload_n dX5_enqueue_22 rfl ?_
    refine e_dupR dX5_enqueue_23 ?_
    refine e_getI dX5_enqueue_24 rfl rfl h1.1 h1.2 ?_
    refine e_iconst (v := (1 : Int32)) dX5_enqueue_27 rfl ?_
    refine e_iadd dX5_enqueue_28 ?_
    replace h := p_lt h
    refine e_putI dX5_enqueue_29 rfl ⟨rfl, rfl, (fun h => by cases h)⟩ (fun h => by cases h) h1.1 h1.2 ?_
    exact E_X5_enqueue_c32 h hQ
/-! X12_load -/
def F_X12_load_c41 (μ : p_M) : Option (Nat × Int32 × p_M) :=
  some (0, (0 : Int32), μ)
theorem E_X12_load_c41 {X : p_X} {d : Nat} {Q : p_R → Prop} {w0 : Value} {w1 : Value} {w2 : Value} {w3 : Value} {w4 : Value} {μ : p_M} {r : Nat × Int32 × p_M} (h : F_X12_load_c41 μ = some r) (hQ : Q (tI r)) : p_Ev X (d + 2) M_X12_load 41 [w0, w1, w2, w3, w4] [] μ Q := by
  unfold F_X12_load_c41 at h
  refine e_iconst (v := (0 : Int32)) dX12_load_41 rfl ?_
  cases h
  exact e_iretz dX12_load_42 rfl (by decide) hQ
def F_X12_load (v0 : Nat) (v1 : Int32) (v2 : Int32) (μ : p_M) : Option (Nat × Int32 × p_M) :=
  p_ok (mK μ v0 = 13 ∧ v0 < mN μ)
  ((F_X12_lotAt v0 v1 μ).bind fun q1 =>
  if q1.1 = 0
  then (p_ok (mK q1.2.2 v0 = 13 ∧ v0 < mN q1.2.2)
    ((F_X12_needIndex v2 (mI q1.2.2 v0 13) q1.2.2).bind fun q4 =>
    if q4.1 = 0
    then (p_ok (mK q4.2.2 v0 = 13 ∧ v0 < mN q4.2.2)
      ((mR q4.2.2 v0 12).bind fun q6 =>
      p_ok (23 ≤ mK q4.2.2 q6 ∧ mK q4.2.2 q6 ≤ 26 ∧ ¬ v2 < 0 ∧ v2.toNatClampNeg < mL q4.2.2 q6 ∧ q6 < mN q4.2.2)
      ((mR q4.2.2 q6 v2.toNatClampNeg).bind fun q8 =>
      p_ok (mK q4.2.2 q1.2.1 = 5 ∧ q1.2.1 < mN q4.2.2)
      (if ¬ (mI q4.2.2 q1.2.1 9) = 0
      then (F_X12_load_c41 q4.2.2)
      else (p_ok (mK q4.2.2 q8 = 6 ∧ q8 < mN q4.2.2)
        (if (mI q4.2.2 q1.2.1 1) ≤ (mI q4.2.2 q8 0)
        then ((F_X5_enqueue q8 v1 q4.2.2).bind fun q11 =>
          p_ok (mK q11.2 q1.2.1 = 5 ∧ q1.2.1 < mN q11.2)
          (p_let (sI q11.2 q1.2.1 9 (1 : Int32)) fun m13 =>
          p_let (sI m13 q1.2.1 10 v2) fun m14 =>
          some (0, (1 : Int32), m14)))
        else (F_X12_load_c41 q4.2.2)))))))
    else (some (q4.1, 0, q4.2.2))))
  else (some (q1.1, 0, q1.2.2)))
theorem E_X12_load {X : p_X} {d : Nat} {Q : p_R → Prop} {v0 : Nat} {v1 : Int32} {v2 : Int32} {μ : p_M} {r : Nat × Int32 × p_M} (h : F_X12_load v0 v1 v2 μ = some r) (hQ : Q (tI r)) : p_Ev X (d + 2) M_X12_load 0 [.ref v0, .int v1, .int v2, .double 0, .double 0] [] μ Q := by
  unfold F_X12_load at h
  refine e_aload_n dX12_load_0 rfl ?_
  refine e_iload_n dX12_load_1 rfl ?_
  obtain ⟨h2, h⟩ := p_ok_some h
  obtain ⟨q1, hq1, h⟩ := p_bd h
  refine f_tVr dX12_load_2 rfl rfl ⟨rfl, rfl, by decide⟩ rfl h2 (by decide) rfl (fun Q' hQ' => E_X12_lotAt hq1 hQ') (fun hc => ?_) (fun hc => ?_)
  · rw [if_pos hc] at h
    refine e_astore_n dX12_load_5 (Nat.le_of_ble_eq_true rfl) rfl ?_
    refine e_iload_n dX12_load_6 rfl ?_
    refine e_aload_n dX12_load_7 rfl ?_
    obtain ⟨h3, h⟩ := p_ok_some h
    refine e_getI dX12_load_8 rfl rfl h3.1 h3.2 ?_
    obtain ⟨q4, hq4, h⟩ := p_bd h
    refine f_tSv dX12_load_11 rfl rfl rfl rfl (by decide) rfl (fun Q' hQ' => E_X12_needIndex hq4 hQ') (fun hc => ?_) (fun hc => ?_)
    · rw [if_pos hc] at h
      refine e_aload_n dX12_load_14 rfl ?_
      obtain ⟨h5, h⟩ := p_ok_some h
      obtain ⟨q6, hq6, h⟩ := p_bd h
      refine e_getR dX12_load_15 rfl rfl h5.1 h5.2 hq6 ?_
      refine e_iload_n dX12_load_18 rfl ?_
      obtain ⟨h7, h⟩ := p_ok_some h
      obtain ⟨q8, hq8, h⟩ := p_bd h
      refine e_aald dX12_load_19 h7 hq8 ?_
      refine e_astore dX12_load_20 (Nat.le_of_ble_eq_true rfl) rfl ?_
      refine e_aload_n dX12_load_22 rfl ?_
      obtain ⟨h9, h⟩ := p_ok_some h
      refine e_getI dX12_load_23 rfl rfl h9.1 h9.2 ?_
      refine e_if_ne dX12_load_26 41 (by decide) (fun hc => ?_) (fun hc => ?_)
      · rw [if_pos hc] at h
        exact E_X12_load_c41 h hQ
      · rw [if_neg hc] at h
        refine e_aload_n dX12_load_29 rfl ?_
        refine e_getI dX12_load_30 rfl rfl h9.1 h9.2 ?_
        refine e_aload dX12_load_33 rfl ?_
        obtain ⟨h10, h⟩ := p_ok_some h
        refine e_getI dX12_load_35 rfl rfl h10.1 h10.2 ?_
        refine e_ic_le dX12_load_38 43 (by decide) (fun hc => ?_) (fun hc => ?_)
        · rw [if_pos hc] at h
          refine e_aload dX12_load_43 rfl ?_
          refine e_iload_n dX12_load_45 rfl ?_
          obtain ⟨q11, hq11, h⟩ := p_bd h
          refine f_cVv dX12_load_46 rfl rfl ⟨rfl, rfl, by decide⟩ rfl h10 (fun Q' hQ' => E_X5_enqueue hq11 hQ') ?_
          refine e_aload_n dX12_load_49 rfl ?_
          refine e_iconst (v := (1 : Int32)) dX12_load_50 rfl ?_
          obtain ⟨h12, h⟩ := p_ok_some h
          replace h := p_lt h
          refine e_putI dX12_load_51 rfl ⟨rfl, rfl, (fun _ => rfl)⟩ (fun h => by cases h) h12.1 h12.2 ?_
          refine e_aload_n dX12_load_54 rfl ?_
          refine e_iload_n dX12_load_55 rfl ?_
          replace h := p_lt h
          refine e_putI dX12_load_56 rfl ⟨rfl, rfl, (fun _ => rfl)⟩ (fun h => by cases h) h12.1 h12.2 ?_
          refine e_iconst (v := (1 : Int32)) dX12_load_59 rfl ?_
          cases h
          exact e_iretz dX12_load_60 rfl (by decide) hQ
        · rw [if_neg hc] at h
          exact E_X12_load_c41 h hQ
    · rw [if_neg hc] at h
      cases h
      exact tI_E hc hQ
  · rw [if_neg hc] at h
    cases h
    exact tI_E hc hQ
/-! L_load -/
def F_L_load_c16 (s0 : Int64) (s1 : Int32) (s2 : Nat) (μ : p_M) : Option (Int32 × p_M) :=
  p_ok (mK μ s2 = 22 ∧ ¬ s1 < 0 ∧ s1.toNatClampNeg < mL μ s2 ∧ s2 < mN μ)
  (p_let (sJ μ s2 s1.toNatClampNeg s0) fun m4 =>
  some ((0 : Int32), m4))
theorem E_L_load_c16 {X : p_X} {d : Nat} {Q : p_R → Prop} {s0 : Int64} {s1 : Int32} {s2 : Nat} {w0 : Value} {w1 : Value} {w2 : Value} {w3 : Value} {w4 : Value} {μ : p_M} {r : Int32 × p_M} (h : F_L_load_c16 s0 s1 s2 μ = some r) (hQ : Q ((0, some (.int r.1)), r.2)) : p_Ev X (d + 3) M_L_load 16 [w0, w1, w2, w3, w4] [.long s0, .int s1, .ref s2] μ Q := by
  unfold F_L_load_c16 at h
  obtain ⟨h3, h⟩ := p_ok_some h
  replace h := p_lt h
  refine e_laS dL_load_16 h3 ?_
  refine e_goto dL_load_17 24 (by decide) ?_
  refine e_iconst (v := (0 : Int32)) dL_load_24 rfl ?_
  cases h
  exact e_ireti dL_load_25 rfl hQ
def F_L_load (v0 : Nat) (v1 : Int32) (v2 : Int32) (v3 : Nat) (μ : p_M) : Option (Int32 × p_M) :=
  p_ok (mK μ v0 = 13 ∧ v0 < mN μ)
  ((F_X12_load v0 v1 v2 μ).bind fun q1 =>
  if q1.1 = 0
  then (if q1.2.1 = 0
    then (F_L_load_c16 (0 : Int64) (0 : Int32) v3 q1.2.2)
    else (F_L_load_c16 (1 : Int64) (0 : Int32) v3 q1.2.2))
  else if q1.1 = 3 then (some ((1 : Int32), q1.2.2))
  else none)
theorem E_L_load {X : p_X} {d : Nat} {Q : p_R → Prop} {v0 : Nat} {v1 : Int32} {v2 : Int32} {v3 : Nat} {μ : p_M} {r : Int32 × p_M} (h : F_L_load v0 v1 v2 v3 μ = some r) (hQ : Q ((0, some (.int r.1)), r.2)) : p_Ev X (d + 3) M_L_load 0 [.ref v0, .int v1, .int v2, .ref v3, .double 0] [] μ Q := by
  unfold F_L_load at h
  refine e_aload_n dL_load_0 rfl ?_
  refine e_iconst (v := (0 : Int32)) dL_load_1 rfl ?_
  refine e_aload_n dL_load_2 rfl ?_
  refine e_iload_n dL_load_3 rfl ?_
  refine e_iload_n dL_load_4 rfl ?_
  obtain ⟨h2, h⟩ := p_ok_some h
  obtain ⟨q1, hq1, h⟩ := p_bd h
  refine f_hVi dL_load_5 rfl rfl ⟨rfl, rfl, by decide⟩ rfl h2 (by decide) (fun Q' hQ' => E_X12_load hq1 hQ') (fun hc => ?_) (fun hc => ?_)
  · rw [if_pos hc] at h
    refine e_if_eq dL_load_8 15 (by decide) (fun hc => ?_) (fun hc => ?_)
    · rw [if_pos hc] at h
      refine e_lconst (v := 0) dL_load_15 rfl ?_
      exact E_L_load_c16 h hQ
    · rw [if_neg hc] at h
      refine e_lconst (v := 1) dL_load_11 rfl ?_
      refine e_goto dL_load_12 16 (by decide) ?_
      exact E_L_load_c16 h hQ
  · rw [if_neg hc] at h
    by_cases hc : q1.1 = 3
    · rw [if_pos hc] at h
      refine ⟨20, by rw [hc]; rfl, ?_⟩
      refine e_astZ dL_load_20 (Nat.le_of_ble_eq_true rfl) rfl ?_
      refine e_iconst (v := (1 : Int32)) dL_load_22 rfl ?_
      cases h
      exact e_ireti dL_load_23 rfl hQ
    rw [if_neg hc] at h
    cases h
/-! X12_tryRecipe -/
def F_X12_tryRecipe_c28 : Nat → Nat → Int32 → Int32 → p_M → Option (Int32 × p_M)
  | 0, _, _, _, _ => none
  | n + 1, v0, v3, v4, μ =>
    if v3 ≤ v4
    then (some (0, μ))
    else (p_ok (mK μ v0 = 13 ∧ v0 < mN μ)
      ((mR μ v0 7).bind fun q12 =>
      (mR μ v0 3).bind fun q13 =>
      p_ok (mK μ q13 = 9 ∧ q13 < mN μ)
      ((mR μ q13 0).bind fun q15 =>
      p_ok (q15 < p_E ∧ mK μ q15 = 20 ∧ q15 < mN μ)
      (p_ok (¬ v4 < 0 ∧ v4.toNatClampNeg < mL μ q15)
      ((mR μ q13 1).bind fun q18 =>
      p_ok (q18 < p_E ∧ mK μ q18 = 20 ∧ q18 < mN μ)
      (p_ok (¬ v4 < 0 ∧ v4.toNatClampNeg < mL μ q18)
      (p_ok (mK μ q12 = 4 ∧ q12 < mN μ)
      ((F_X3_take q12 (mI μ q15 v4.toNatClampNeg) (mI μ q18 v4.toNatClampNeg) μ).bind fun q21 =>
      F_X12_tryRecipe_c28 n v0 v3 (v4 + (1 : Int32)) q21.2))))))))
theorem E_X12_tryRecipe_c28 {X : p_X} {d : Nat} {Q : p_R → Prop} : ∀ (n : Nat) (v0 : Nat) (v3 : Int32) (v4 : Int32) (μ : p_M) (r : Int32 × p_M) (w1 : Value) (w2 : Value), F_X12_tryRecipe_c28 n v0 v3 v4 μ = some r → Q ((0, none), r.2) → p_Ev X (d + 2) M_X12_tryRecipe 28 [.ref v0, w1, w2, .int v3, .int v4] [] μ Q := by
  intro n
  induction n with
  | zero => intro v0 v3 v4 μ r w1 w2 h hQ; rw [F_X12_tryRecipe_c28] at h; cases h
  | succ n ih =>
    intro v0 v3 v4 μ r w1 w2 h hQ
    rw [F_X12_tryRecipe_c28] at h
    refine e_iload dX12_tryRecipe_28 rfl ?_
    refine e_iload_n dX12_tryRecipe_30 rfl ?_
    refine e_ic_ge dX12_tryRecipe_31 67 (by decide) (fun hc => ?_) (fun hc => ?_)
    · rw [if_pos hc] at h
      cases h
      exact e_vret dX12_tryRecipe_67 rfl hQ
    · rw [if_neg hc] at h
      refine e_aload_n dX12_tryRecipe_34 rfl ?_
      obtain ⟨h11, h⟩ := p_ok_some h
      obtain ⟨q12, hq12, h⟩ := p_bd h
      refine e_getR dX12_tryRecipe_35 rfl rfl h11.1 h11.2 hq12 ?_
      refine e_aload_n dX12_tryRecipe_38 rfl ?_
      obtain ⟨q13, hq13, h⟩ := p_bd h
      refine e_getR dX12_tryRecipe_39 rfl rfl h11.1 h11.2 hq13 ?_
      obtain ⟨h14, h⟩ := p_ok_some h
      obtain ⟨q15, hq15, h⟩ := p_bd h
      refine e_getR dX12_tryRecipe_42 rfl rfl h14.1 h14.2 hq15 ?_
      refine e_iload dX12_tryRecipe_45 rfl ?_
      obtain ⟨h16, h⟩ := p_ok_some h
      obtain ⟨h17, h⟩ := p_ok_some h
      refine e_iaG dX12_tryRecipe_47 h16 h17 ?_
      refine e_aload_n dX12_tryRecipe_48 rfl ?_
      refine e_getR dX12_tryRecipe_49 rfl rfl h11.1 h11.2 hq13 ?_
      obtain ⟨q18, hq18, h⟩ := p_bd h
      refine e_getR dX12_tryRecipe_52 rfl rfl h14.1 h14.2 hq18 ?_
      refine e_iload dX12_tryRecipe_55 rfl ?_
      obtain ⟨h19, h⟩ := p_ok_some h
      obtain ⟨h20, h⟩ := p_ok_some h
      refine e_iaG dX12_tryRecipe_57 h19 h20 ?_
      obtain ⟨h22, h⟩ := p_ok_some h
      obtain ⟨q21, hq21, h⟩ := p_bd h
      refine f_cVv dX12_tryRecipe_58 rfl rfl ⟨rfl, rfl, by decide⟩ rfl h22 (fun Q' hQ' => E_X3_take hq21 hQ') ?_
      refine e_iinc (v := (1 : Int32)) dX12_tryRecipe_61 rfl rfl rfl ?_
      refine e_goto dX12_tryRecipe_64 28 (by decide) ?_
      exact ih _ _ _ _ _ _ _ h hQ
def F_X12_tryRecipe (v0 : Nat) (v1 : Int32) (v2 : Int32) (μ : p_M) : Option (Int32 × p_M) :=
  p_ok (mK μ v0 = 13 ∧ v0 < mN μ)
  ((mR μ v0 7).bind fun q2 =>
  (mR μ v0 1).bind fun q3 =>
  p_ok (23 ≤ mK μ q3 ∧ mK μ q3 ≤ 26 ∧ ¬ v1 < 0 ∧ v1.toNatClampNeg < mL μ q3 ∧ q3 < mN μ)
  ((mR μ q3 v1.toNatClampNeg).bind fun q5 =>
  p_ok (mK μ q2 = 4 ∧ q2 < mN μ)
  ((F_X3_copy q2 q5 μ).bind fun q6 =>
  p_ok (mK q6.2 v0 = 13 ∧ v0 < mN q6.2)
  ((mR q6.2 v0 3).bind fun q9 =>
  p_ok (mK q6.2 q9 = 9 ∧ q9 < mN q6.2)
  (F_X12_tryRecipe_c28 p_fu v0 (if (mI q6.2 q9 2) < v2 then (mI q6.2 q9 2) else v2) (0 : Int32) q6.2)))))
theorem E_X12_tryRecipe {X : p_X} {d : Nat} {Q : p_R → Prop} {v0 : Nat} {v1 : Int32} {v2 : Int32} {μ : p_M} {r : Int32 × p_M} (h : F_X12_tryRecipe v0 v1 v2 μ = some r) (hQ : Q ((0, none), r.2)) : p_Ev X (d + 2) M_X12_tryRecipe 0 [.ref v0, .int v1, .int v2, .double 0, .double 0] [] μ Q := by
  unfold F_X12_tryRecipe at h
  refine e_aload_n dX12_tryRecipe_0 rfl ?_
  obtain ⟨h1, h⟩ := p_ok_some h
  obtain ⟨q2, hq2, h⟩ := p_bd h
  refine e_getR dX12_tryRecipe_1 rfl rfl h1.1 h1.2 hq2 ?_
  refine e_aload_n dX12_tryRecipe_4 rfl ?_
  obtain ⟨q3, hq3, h⟩ := p_bd h
  refine e_getR dX12_tryRecipe_5 rfl rfl h1.1 h1.2 hq3 ?_
  refine e_iload_n dX12_tryRecipe_8 rfl ?_
  obtain ⟨h4, h⟩ := p_ok_some h
  obtain ⟨q5, hq5, h⟩ := p_bd h
  refine e_aald dX12_tryRecipe_9 h4 hq5 ?_
  obtain ⟨h7, h⟩ := p_ok_some h
  obtain ⟨q6, hq6, h⟩ := p_bd h
  refine f_cVv dX12_tryRecipe_10 rfl rfl ⟨rfl, rfl, by decide⟩ rfl h7 (fun Q' hQ' => E_X3_copy hq6 hQ') ?_
  refine e_iload_n dX12_tryRecipe_13 rfl ?_
  refine e_aload_n dX12_tryRecipe_14 rfl ?_
  obtain ⟨h8, h⟩ := p_ok_some h
  obtain ⟨q9, hq9, h⟩ := p_bd h
  refine e_getR dX12_tryRecipe_15 rfl rfl h8.1 h8.2 hq9 ?_
  obtain ⟨h10, h⟩ := p_ok_some h
  refine e_getI dX12_tryRecipe_18 rfl rfl h10.1 h10.2 ?_
  refine e_min dX12_tryRecipe_21 rfl (Nat.le_of_ble_eq_true rfl) ?_
  refine e_istore_n dX12_tryRecipe_24 (Nat.le_of_ble_eq_true rfl) rfl ?_
  refine e_iconst (v := (0 : Int32)) dX12_tryRecipe_25 rfl ?_
  refine e_istore dX12_tryRecipe_26 (Nat.le_of_ble_eq_true rfl) rfl ?_
  exact E_X12_tryRecipe_c28 p_fu _ _ _ _ _ _ _ h hQ
/-! X12_look -/
def F_X12_look_c17 (v0 : Nat) (v1 : Int32) (v2 : Int32) (v3 : Int32) (s0 : Int32) (μ : p_M) : Option (Nat × Int32 × p_M) :=
  (F_X12_need s0 μ).bind fun q3 =>
  if q3.1 = 0
  then ((F_X12_needWhat v3 (4 : Int32) q3.2.2).bind fun q4 =>
    if q4.1 = 0
    then (p_ok (mK q4.2.2 v0 = 13 ∧ v0 < mN q4.2.2)
      ((F_X12_tryRecipe v0 v1 v2 q4.2.2).bind fun q5 =>
      p_ok (mK q5.2 v0 = 13 ∧ v0 < mN q5.2)
      ((mR q5.2 v0 7).bind fun q8 =>
      p_ok (mK q5.2 q8 = 4 ∧ q8 < mN q5.2)
      ((F_X3_part q8 v3 q5.2).bind fun q9 =>
      some (0, q9.1, q9.2)))))
    else (some (q4.1, 0, q4.2.2)))
  else (some (q3.1, 0, q3.2.2))
theorem E_X12_look_c17 {X : p_X} {d : Nat} {Q : p_R → Prop} {v0 : Nat} {v1 : Int32} {v2 : Int32} {v3 : Int32} {s0 : Int32} {μ : p_M} {r : Nat × Int32 × p_M} (h : F_X12_look_c17 v0 v1 v2 v3 s0 μ = some r) (hQ : Q (tI r)) : p_Ev X (d + 3) M_X12_look 17 [.ref v0, .int v1, .int v2, .int v3] [.int s0] μ Q := by
  unfold F_X12_look_c17 at h
  obtain ⟨q3, hq3, h⟩ := p_bd h
  refine f_tSv dX12_look_17 rfl rfl rfl rfl (by decide) rfl (fun Q' hQ' => E_X12_need hq3 hQ') (fun hc => ?_) (fun hc => ?_)
  · rw [if_pos hc] at h
    refine e_iload_n dX12_look_20 rfl ?_
    refine e_iconst (v := (4 : Int32)) dX12_look_21 rfl ?_
    obtain ⟨q4, hq4, h⟩ := p_bd h
    refine f_tSv dX12_look_22 rfl rfl rfl rfl (by decide) rfl (fun Q' hQ' => E_X12_needWhat hq4 hQ') (fun hc => ?_) (fun hc => ?_)
    · rw [if_pos hc] at h
      refine e_aload_n dX12_look_25 rfl ?_
      refine e_iload_n dX12_look_26 rfl ?_
      refine e_iload_n dX12_look_27 rfl ?_
      obtain ⟨h6, h⟩ := p_ok_some h
      obtain ⟨q5, hq5, h⟩ := p_bd h
      refine f_cVv dX12_look_28 rfl rfl ⟨rfl, rfl, by decide⟩ rfl h6 (fun Q' hQ' => E_X12_tryRecipe hq5 hQ') ?_
      refine e_aload_n dX12_look_31 rfl ?_
      obtain ⟨h7, h⟩ := p_ok_some h
      obtain ⟨q8, hq8, h⟩ := p_bd h
      refine e_getR dX12_look_32 rfl rfl h7.1 h7.2 hq8 ?_
      refine e_iload_n dX12_look_35 rfl ?_
      obtain ⟨h10, h⟩ := p_ok_some h
      obtain ⟨q9, hq9, h⟩ := p_bd h
      refine f_cVi dX12_look_36 rfl rfl ⟨rfl, rfl, by decide⟩ rfl h10 (fun Q' hQ' => E_X3_part hq9 hQ') ?_
      cases h
      exact e_ireti dX12_look_39 rfl hQ
    · rw [if_neg hc] at h
      cases h
      exact tI_E hc hQ
  · rw [if_neg hc] at h
    cases h
    exact tI_E hc hQ
def F_X12_look (v0 : Nat) (v1 : Int32) (v2 : Int32) (v3 : Int32) (μ : p_M) : Option (Nat × Int32 × p_M) :=
  p_ok (mK μ v0 = 13 ∧ v0 < mN μ)
  ((F_X12_needIndex v1 (mI μ v0 2) μ).bind fun q2 =>
  if q2.1 = 0
  then (if v2 < 0
    then (F_X12_look_c17 v0 v1 v2 v3 (0 : Int32) q2.2.2)
    else (F_X12_look_c17 v0 v1 v2 v3 (1 : Int32) q2.2.2))
  else (some (q2.1, 0, q2.2.2)))
theorem E_X12_look {X : p_X} {d : Nat} {Q : p_R → Prop} {v0 : Nat} {v1 : Int32} {v2 : Int32} {v3 : Int32} {μ : p_M} {r : Nat × Int32 × p_M} (h : F_X12_look v0 v1 v2 v3 μ = some r) (hQ : Q (tI r)) : p_Ev X (d + 3) M_X12_look 0 [.ref v0, .int v1, .int v2, .int v3] [] μ Q := by
  unfold F_X12_look at h
  refine e_iload_n dX12_look_0 rfl ?_
  refine e_aload_n dX12_look_1 rfl ?_
  obtain ⟨h1, h⟩ := p_ok_some h
  refine e_getI dX12_look_2 rfl rfl h1.1 h1.2 ?_
  obtain ⟨q2, hq2, h⟩ := p_bd h
  refine f_tSv dX12_look_5 rfl rfl rfl rfl (by decide) rfl (fun Q' hQ' => E_X12_needIndex hq2 hQ') (fun hc => ?_) (fun hc => ?_)
  · rw [if_pos hc] at h
    refine e_iload_n dX12_look_8 rfl ?_
    refine e_if_lt dX12_look_9 16 (by decide) (fun hc => ?_) (fun hc => ?_)
    · rw [if_pos hc] at h
      refine e_iconst (v := (0 : Int32)) dX12_look_16 rfl ?_
      exact E_X12_look_c17 h hQ
    · rw [if_neg hc] at h
      refine e_iconst (v := (1 : Int32)) dX12_look_12 rfl ?_
      refine e_goto dX12_look_13 17 (by decide) ?_
      exact E_X12_look_c17 h hQ
  · rw [if_neg hc] at h
    cases h
    exact tI_E hc hQ
/-! L_look -/
def F_L_look (v0 : Nat) (v1 : Int32) (v2 : Int32) (v3 : Int32) (v4 : Nat) (μ : p_M) : Option (Int32 × p_M) :=
  p_ok (mK μ v0 = 13 ∧ v0 < mN μ)
  ((F_X12_look v0 v1 v2 v3 μ).bind fun q1 =>
  if q1.1 = 0
  then (p_ok (mK q1.2.2 v4 = 22 ∧ ¬ (0 : Int32) < 0 ∧ (0 : Int32).toNatClampNeg < mL q1.2.2 v4 ∧ v4 < mN q1.2.2)
    (p_let (sJ q1.2.2 v4 (0 : Int32).toNatClampNeg q1.2.1.toInt64) fun m4 =>
    some ((0 : Int32), m4)))
  else if q1.1 = 3 then (some ((1 : Int32), q1.2.2))
  else if q1.1 = 1 then (some ((2 : Int32), q1.2.2))
  else if q1.1 = 4 then (some ((3 : Int32), q1.2.2))
  else none)
theorem E_L_look {X : p_X} {d : Nat} {Q : p_R → Prop} {v0 : Nat} {v1 : Int32} {v2 : Int32} {v3 : Int32} {v4 : Nat} {μ : p_M} {r : Int32 × p_M} (h : F_L_look v0 v1 v2 v3 v4 μ = some r) (hQ : Q ((0, some (.int r.1)), r.2)) : p_Ev X (d + 4) M_L_look 0 [.ref v0, .int v1, .int v2, .int v3, .ref v4, .double 0] [] μ Q := by
  unfold F_L_look at h
  refine e_aload dL_look_0 rfl ?_
  refine e_iconst (v := (0 : Int32)) dL_look_2 rfl ?_
  refine e_aload_n dL_look_3 rfl ?_
  refine e_iload_n dL_look_4 rfl ?_
  refine e_iload_n dL_look_5 rfl ?_
  refine e_iload_n dL_look_6 rfl ?_
  obtain ⟨h2, h⟩ := p_ok_some h
  obtain ⟨q1, hq1, h⟩ := p_bd h
  refine f_hVi dL_look_7 rfl rfl ⟨rfl, rfl, by decide⟩ rfl h2 (by decide) (fun Q' hQ' => E_X12_look hq1 hQ') (fun hc => ?_) (fun hc => ?_)
  · rw [if_pos hc] at h
    refine e_i2l dL_look_10 ?_
    obtain ⟨h3, h⟩ := p_ok_some h
    replace h := p_lt h
    refine e_laS dL_look_11 h3 ?_
    refine e_goto dL_look_12 27 (by decide) ?_
    refine e_iconst (v := (0 : Int32)) dL_look_27 rfl ?_
    cases h
    exact e_ireti dL_look_28 rfl hQ
  · rw [if_neg hc] at h
    by_cases hc : q1.1 = 3
    · rw [if_pos hc] at h
      refine ⟨15, by rw [hc]; rfl, ?_⟩
      refine e_astZ dL_look_15 (Nat.le_of_ble_eq_true rfl) rfl ?_
      refine e_iconst (v := (1 : Int32)) dL_look_17 rfl ?_
      cases h
      exact e_ireti dL_look_18 rfl hQ
    rw [if_neg hc] at h
    by_cases hc : q1.1 = 1
    · rw [if_pos hc] at h
      refine ⟨19, by rw [hc]; rfl, ?_⟩
      refine e_astZ dL_look_19 (Nat.le_of_ble_eq_true rfl) rfl ?_
      refine e_iconst (v := (2 : Int32)) dL_look_21 rfl ?_
      cases h
      exact e_ireti dL_look_22 rfl hQ
    rw [if_neg hc] at h
    by_cases hc : q1.1 = 4
    · rw [if_pos hc] at h
      refine ⟨23, by rw [hc]; rfl, ?_⟩
      refine e_astZ dL_look_23 (Nat.le_of_ble_eq_true rfl) rfl ?_
      refine e_iconst (v := (3 : Int32)) dL_look_25 rfl ?_
      cases h
      exact e_ireti dL_look_26 rfl hQ
    rw [if_neg hc] at h
    cases h
/-! X8_copy -/
def F_X8_copy_c7 : Nat → Nat → Nat → Int32 → p_M → Option (Int32 × p_M)
  | 0, _, _, _, _ => none
  | n + 1, v0, v1, v2, μ =>
    p_ok (mK μ v1 = 9 ∧ v1 < mN μ)
    (if (mI μ v1 2) ≤ v2
    then (some (0, μ))
    else ((mR μ v1 0).bind fun q4 =>
      p_ok (q4 < p_E ∧ mK μ q4 = 20 ∧ q4 < mN μ)
      (p_ok (¬ v2 < 0 ∧ v2.toNatClampNeg < mL μ q4)
      ((mR μ v1 1).bind fun q7 =>
      p_ok (q7 < p_E ∧ mK μ q7 = 20 ∧ q7 < mN μ)
      (p_ok (¬ v2 < 0 ∧ v2.toNatClampNeg < mL μ q7)
      (p_ok (mK μ v0 = 9 ∧ v0 < mN μ)
      ((F_X8_add v0 (mI μ q4 v2.toNatClampNeg) (mI μ q7 v2.toNatClampNeg) μ).bind fun q10 =>
      F_X8_copy_c7 n v0 v1 (v2 + (1 : Int32)) q10.2)))))))
theorem E_X8_copy_c7 {X : p_X} {d : Nat} {Q : p_R → Prop} : ∀ (n : Nat) (v0 : Nat) (v1 : Nat) (v2 : Int32) (μ : p_M) (r : Int32 × p_M), F_X8_copy_c7 n v0 v1 v2 μ = some r → Q ((0, none), r.2) → p_Ev X (d + 1) M_X8_copy 7 [.ref v0, .ref v1, .int v2] [] μ Q := by
  intro n
  induction n with
  | zero => intro v0 v1 v2 μ r h hQ; rw [F_X8_copy_c7] at h; cases h
  | succ n ih =>
    intro v0 v1 v2 μ r h hQ
    rw [F_X8_copy_c7] at h
    refine e_iload_n dX8_copy_7 rfl ?_
    refine e_aload_n dX8_copy_8 rfl ?_
    obtain ⟨h3, h⟩ := p_ok_some h
    refine e_getI dX8_copy_9 rfl rfl h3.1 h3.2 ?_
    refine e_ic_ge dX8_copy_12 37 (by decide) (fun hc => ?_) (fun hc => ?_)
    · rw [if_pos hc] at h
      cases h
      exact e_vret dX8_copy_37 rfl hQ
    · rw [if_neg hc] at h
      refine e_aload_n dX8_copy_15 rfl ?_
      refine e_aload_n dX8_copy_16 rfl ?_
      obtain ⟨q4, hq4, h⟩ := p_bd h
      refine e_getR dX8_copy_17 rfl rfl h3.1 h3.2 hq4 ?_
      refine e_iload_n dX8_copy_20 rfl ?_
      obtain ⟨h5, h⟩ := p_ok_some h
      obtain ⟨h6, h⟩ := p_ok_some h
      refine e_iaG dX8_copy_21 h5 h6 ?_
      refine e_aload_n dX8_copy_22 rfl ?_
      obtain ⟨q7, hq7, h⟩ := p_bd h
      refine e_getR dX8_copy_23 rfl rfl h3.1 h3.2 hq7 ?_
      refine e_iload_n dX8_copy_26 rfl ?_
      obtain ⟨h8, h⟩ := p_ok_some h
      obtain ⟨h9, h⟩ := p_ok_some h
      refine e_iaG dX8_copy_27 h8 h9 ?_
      obtain ⟨h11, h⟩ := p_ok_some h
      obtain ⟨q10, hq10, h⟩ := p_bd h
      refine f_cVv dX8_copy_28 rfl rfl ⟨rfl, rfl, by decide⟩ rfl h11 (fun Q' hQ' => E_X8_add hq10 hQ') ?_
      refine e_iinc (v := (1 : Int32)) dX8_copy_31 rfl rfl rfl ?_
      refine e_goto dX8_copy_34 7 (by decide) ?_
      exact ih _ _ _ _ _ h hQ
def F_X8_copy (v0 : Nat) (v1 : Nat) (μ : p_M) : Option (Int32 × p_M) :=
  p_ok (mK μ v0 = 9 ∧ v0 < mN μ)
  (p_let (sI μ v0 2 (0 : Int32)) fun m2 =>
  F_X8_copy_c7 p_fu v0 v1 (0 : Int32) m2)
theorem E_X8_copy {X : p_X} {d : Nat} {Q : p_R → Prop} {v0 : Nat} {v1 : Nat} {μ : p_M} {r : Int32 × p_M} (h : F_X8_copy v0 v1 μ = some r) (hQ : Q ((0, none), r.2)) : p_Ev X (d + 1) M_X8_copy 0 [.ref v0, .ref v1, .double 0] [] μ Q := by
  unfold F_X8_copy at h
  refine e_aload_n dX8_copy_0 rfl ?_
  refine e_iconst (v := (0 : Int32)) dX8_copy_1 rfl ?_
  obtain ⟨h1, h⟩ := p_ok_some h
  replace h := p_lt h
  refine e_putI dX8_copy_2 rfl ⟨rfl, rfl, (fun h => by cases h)⟩ (fun h => by cases h) h1.1 h1.2 ?_
  refine e_iconst (v := (0 : Int32)) dX8_copy_5 rfl ?_
  refine e_istore_n dX8_copy_6 (Nat.le_of_ble_eq_true rfl) rfl ?_
  exact E_X8_copy_c7 p_fu _ _ _ _ _ h hQ
/-! X12_lot -/
def F_X12_lot (v0 : Nat) (v1 : Int32) (v2 : Int32) (v3 : Int32) (v4 : Int32) (v5 : Int32) (v6 : Int32) (v7 : Int32) (μ : p_M) : Option (Nat × Int32 × p_M) :=
  p_ok (mK μ v0 = 13 ∧ v0 < mN μ)
  ((F_X12_needIndex v1 (mI μ v0 2) μ).bind fun q2 =>
  if q2.1 = 0
  then ((F_X12_needIndex v3 (6 : Int32) q2.2.2).bind fun q3 =>
    if q3.1 = 0
    then ((F_X12_within v2 (1 : Int32) (60 : Int32) q3.2.2).bind fun q4 =>
      (F_X12_need q4.1 q4.2).bind fun q5 =>
      if q5.1 = 0
      then ((F_X12_needWish v4 v5 v6 q5.2.2).bind fun q6 =>
        if q6.1 = 0
        then ((F_X12_within v7 (0 : Int32) (400 : Int32) q6.2.2).bind fun q7 =>
          (F_X12_need q7.1 q7.2).bind fun q8 =>
          if q8.1 = 0
          then (p_ok (mK q8.2.2 v0 = 13 ∧ v0 < mN q8.2.2)
            ((mR q8.2.2 v0 14).bind fun q10 =>
            p_ok (q10 < mN q8.2.2 ∧ mK q8.2.2 q10 = 0)
            ((F_X12_needRoom (mI q8.2.2 q10 2) (40 : Int32) q8.2.2).bind fun q12 =>
            if q12.1 = 0
            then (p_let (sN q12.2.2 5 0 (q_N 5)) fun m13 =>
              p_ok (mK m13 v0 = 13 ∧ v0 < mN m13)
              ((mR m13 v0 3).bind fun q15 =>
              p_ok (mK m13 q15 = 9 ∧ q15 < mN m13)
              (p_ok (mK m13 (mN q12.2.2) = 5 ∧ (mN q12.2.2) < mN m13)
              ((F_X4_init (mN q12.2.2) v1 v2 v3 v7 (mI m13 q15 2) m13).bind fun q17 =>
              p_ok (mK q17.2 (mN q12.2.2) = 5 ∧ (mN q12.2.2) < mN q17.2)
              ((F_X4_wishFor (mN q12.2.2) v4 v5 v6 q17.2).bind fun q19 =>
              p_ok (mK q19.2 (mN q12.2.2) = 5 ∧ (mN q12.2.2) < mN q19.2)
              ((mR q19.2 (mN q12.2.2) 7).bind fun q22 =>
              p_ok (mK q19.2 v0 = 13 ∧ v0 < mN q19.2)
              ((mR q19.2 v0 3).bind fun q24 =>
              p_ok (mK q19.2 q22 = 9 ∧ q22 < mN q19.2)
              ((F_X8_copy q22 q24 q19.2).bind fun q25 =>
              p_ok (mK q25.2 (mN q12.2.2) = 5 ∧ (mN q12.2.2) < mN q25.2)
              ((mR q25.2 (mN q12.2.2) 8).bind fun q28 =>
              p_ok (mK q25.2 v0 = 13 ∧ v0 < mN q25.2)
              ((mR q25.2 v0 1).bind fun q30 =>
              p_ok (23 ≤ mK q25.2 q30 ∧ mK q25.2 q30 ≤ 26 ∧ ¬ v1 < 0 ∧ v1.toNatClampNeg < mL q25.2 q30 ∧ q30 < mN q25.2)
              ((mR q25.2 q30 v1.toNatClampNeg).bind fun q32 =>
              p_ok (mK q25.2 q28 = 4 ∧ q28 < mN q25.2)
              ((F_X3_copy q28 q32 q25.2).bind fun q33 =>
              p_ok (mK q33.2 v0 = 13 ∧ v0 < mN q33.2)
              ((F_X12_addLot v0 (mN q12.2.2) q33.2).bind fun q35 =>
              some (0, q35.1, q35.2))))))))))))))
            else (some (q12.1, 0, q12.2.2)))))
          else (some (q8.1, 0, q8.2.2)))
        else (some (q6.1, 0, q6.2.2)))
      else (some (q5.1, 0, q5.2.2)))
    else (some (q3.1, 0, q3.2.2)))
  else (some (q2.1, 0, q2.2.2)))
theorem E_X12_lot {X : p_X} {d : Nat} {Q : p_R → Prop} {v0 : Nat} {v1 : Int32} {v2 : Int32} {v3 : Int32} {v4 : Int32} {v5 : Int32} {v6 : Int32} {v7 : Int32} {μ : p_M} {r : Nat × Int32 × p_M} (h : F_X12_lot v0 v1 v2 v3 v4 v5 v6 v7 μ = some r) (hQ : Q (tI r)) : p_Ev X (d + 2) M_X12_lot 0 [.ref v0, .int v1, .int v2, .int v3, .int v4, .int v5, .int v6, .int v7, .double 0] [] μ Q := by
  unfold F_X12_lot at h
  refine e_iload_n dX12_lot_0 rfl ?_
  refine e_aload_n dX12_lot_1 rfl ?_
  obtain ⟨h1, h⟩ := p_ok_some h
  refine e_getI dX12_lot_2 rfl rfl h1.1 h1.2 ?_
  obtain ⟨q2, hq2, h⟩ := p_bd h
  refine f_tSv dX12_lot_5 rfl rfl rfl rfl (by decide) rfl (fun Q' hQ' => E_X12_needIndex hq2 hQ') (fun hc => ?_) (fun hc => ?_)
  · rw [if_pos hc] at h
    refine e_iload_n dX12_lot_8 rfl ?_
    refine e_bipush (v := (6 : Int32)) dX12_lot_9 rfl ?_
    obtain ⟨q3, hq3, h⟩ := p_bd h
    refine f_tSv dX12_lot_11 rfl rfl rfl rfl (by decide) rfl (fun Q' hQ' => E_X12_needIndex hq3 hQ') (fun hc => ?_) (fun hc => ?_)
    · rw [if_pos hc] at h
      refine e_iload_n dX12_lot_14 rfl ?_
      refine e_iconst (v := (1 : Int32)) dX12_lot_15 rfl ?_
      refine e_bipush (v := (60 : Int32)) dX12_lot_16 rfl ?_
      obtain ⟨q4, hq4, h⟩ := p_bd h
      refine f_cSi dX12_lot_18 rfl rfl rfl rfl (fun Q' hQ' => E_X12_within hq4 hQ') ?_
      obtain ⟨q5, hq5, h⟩ := p_bd h
      refine f_tSv dX12_lot_21 rfl rfl rfl rfl (by decide) rfl (fun Q' hQ' => E_X12_need hq5 hQ') (fun hc => ?_) (fun hc => ?_)
      · rw [if_pos hc] at h
        refine e_iload dX12_lot_24 rfl ?_
        refine e_iload dX12_lot_26 rfl ?_
        refine e_iload dX12_lot_28 rfl ?_
        obtain ⟨q6, hq6, h⟩ := p_bd h
        refine f_tSv dX12_lot_30 rfl rfl rfl rfl (by decide) rfl (fun Q' hQ' => E_X12_needWish hq6 hQ') (fun hc => ?_) (fun hc => ?_)
        · rw [if_pos hc] at h
          refine e_iload dX12_lot_33 rfl ?_
          refine e_iconst (v := (0 : Int32)) dX12_lot_35 rfl ?_
          refine e_sipush (v := (400 : Int32)) dX12_lot_36 rfl ?_
          obtain ⟨q7, hq7, h⟩ := p_bd h
          refine f_cSi dX12_lot_39 rfl rfl rfl rfl (fun Q' hQ' => E_X12_within hq7 hQ') ?_
          obtain ⟨q8, hq8, h⟩ := p_bd h
          refine f_tSv dX12_lot_42 rfl rfl rfl rfl (by decide) rfl (fun Q' hQ' => E_X12_need hq8 hQ') (fun hc => ?_) (fun hc => ?_)
          · rw [if_pos hc] at h
            refine e_aload_n dX12_lot_45 rfl ?_
            obtain ⟨h9, h⟩ := p_ok_some h
            obtain ⟨q10, hq10, h⟩ := p_bd h
            refine e_getR dX12_lot_46 rfl rfl h9.1 h9.2 hq10 ?_
            obtain ⟨h11, h⟩ := p_ok_some h
            refine e_lsz dX12_lot_49 rfl (Nat.le_of_ble_eq_true rfl) h11 ?_
            refine e_bipush (v := (40 : Int32)) dX12_lot_52 rfl ?_
            obtain ⟨q12, hq12, h⟩ := p_bd h
            refine f_tSv dX12_lot_54 rfl rfl rfl rfl (by decide) rfl (fun Q' hQ' => E_X12_needRoom hq12 hQ') (fun hc => ?_) (fun hc => ?_)
            · rw [if_pos hc] at h
              replace h := p_lt h
              refine e_new dX12_lot_57 rfl ?_
              refine e_dupR dX12_lot_60 ?_
              refine e_iload_n dX12_lot_61 rfl ?_
              refine e_iload_n dX12_lot_62 rfl ?_
              refine e_iload_n dX12_lot_63 rfl ?_
              refine e_iload dX12_lot_64 rfl ?_
              refine e_aload_n dX12_lot_66 rfl ?_
              obtain ⟨h14, h⟩ := p_ok_some h
              obtain ⟨q15, hq15, h⟩ := p_bd h
              refine e_getR dX12_lot_67 rfl rfl h14.1 h14.2 hq15 ?_
              obtain ⟨h16, h⟩ := p_ok_some h
              refine e_getI dX12_lot_70 rfl rfl h16.1 h16.2 ?_
              obtain ⟨h18, h⟩ := p_ok_some h
              obtain ⟨q17, hq17, h⟩ := p_bd h
              refine f_cPv dX12_lot_73 rfl rfl ⟨rfl, rfl⟩ rfl h18 (fun Q' hQ' => E_X4_init hq17 hQ') ?_
              refine e_astore dX12_lot_76 (Nat.le_of_ble_eq_true rfl) rfl ?_
              refine e_aload dX12_lot_78 rfl ?_
              refine e_iload dX12_lot_80 rfl ?_
              refine e_iload dX12_lot_82 rfl ?_
              refine e_iload dX12_lot_84 rfl ?_
              obtain ⟨h20, h⟩ := p_ok_some h
              obtain ⟨q19, hq19, h⟩ := p_bd h
              refine f_cVv dX12_lot_86 rfl rfl ⟨rfl, rfl, by decide⟩ rfl h20 (fun Q' hQ' => E_X4_wishFor hq19 hQ') ?_
              refine e_aload dX12_lot_89 rfl ?_
              obtain ⟨h21, h⟩ := p_ok_some h
              obtain ⟨q22, hq22, h⟩ := p_bd h
              refine e_getR dX12_lot_91 rfl rfl h21.1 h21.2 hq22 ?_
              refine e_aload_n dX12_lot_94 rfl ?_
              obtain ⟨h23, h⟩ := p_ok_some h
              obtain ⟨q24, hq24, h⟩ := p_bd h
              refine e_getR dX12_lot_95 rfl rfl h23.1 h23.2 hq24 ?_
              obtain ⟨h26, h⟩ := p_ok_some h
              obtain ⟨q25, hq25, h⟩ := p_bd h
              refine f_cVv dX12_lot_98 rfl rfl ⟨rfl, rfl, by decide⟩ rfl h26 (fun Q' hQ' => E_X8_copy hq25 hQ') ?_
              refine e_aload dX12_lot_101 rfl ?_
              obtain ⟨h27, h⟩ := p_ok_some h
              obtain ⟨q28, hq28, h⟩ := p_bd h
              refine e_getR dX12_lot_103 rfl rfl h27.1 h27.2 hq28 ?_
              refine e_aload_n dX12_lot_106 rfl ?_
              obtain ⟨h29, h⟩ := p_ok_some h
              obtain ⟨q30, hq30, h⟩ := p_bd h
              refine e_getR dX12_lot_107 rfl rfl h29.1 h29.2 hq30 ?_
              refine e_iload_n dX12_lot_110 rfl ?_
              obtain ⟨h31, h⟩ := p_ok_some h
              obtain ⟨q32, hq32, h⟩ := p_bd h
              refine e_aald dX12_lot_111 h31 hq32 ?_
              obtain ⟨h34, h⟩ := p_ok_some h
              obtain ⟨q33, hq33, h⟩ := p_bd h
              refine f_cVv dX12_lot_112 rfl rfl ⟨rfl, rfl, by decide⟩ rfl h34 (fun Q' hQ' => E_X3_copy hq33 hQ') ?_
              refine e_aload_n dX12_lot_115 rfl ?_
              refine e_aload dX12_lot_116 rfl ?_
              obtain ⟨h36, h⟩ := p_ok_some h
              obtain ⟨q35, hq35, h⟩ := p_bd h
              refine f_cVi dX12_lot_118 rfl rfl ⟨rfl, rfl, by decide⟩ rfl h36 (fun Q' hQ' => E_X12_addLot hq35 hQ') ?_
              cases h
              exact e_ireti dX12_lot_121 rfl hQ
            · rw [if_neg hc] at h
              cases h
              exact tI_E hc hQ
          · rw [if_neg hc] at h
            cases h
            exact tI_E hc hQ
        · rw [if_neg hc] at h
          cases h
          exact tI_E hc hQ
      · rw [if_neg hc] at h
        cases h
        exact tI_E hc hQ
    · rw [if_neg hc] at h
      cases h
      exact tI_E hc hQ
  · rw [if_neg hc] at h
    cases h
    exact tI_E hc hQ
/-! L_lot -/
def F_L_lot (v0 : Nat) (v1 : Int32) (v2 : Int32) (v3 : Int32) (v4 : Int32) (v5 : Int32) (v6 : Int32) (v7 : Int32) (v8 : Nat) (μ : p_M) : Option (Int32 × p_M) :=
  p_ok (mK μ v0 = 13 ∧ v0 < mN μ)
  ((F_X12_lot v0 v1 v2 v3 v4 v5 v6 v7 μ).bind fun q1 =>
  if q1.1 = 0
  then (p_ok (mK q1.2.2 v8 = 22 ∧ ¬ (0 : Int32) < 0 ∧ (0 : Int32).toNatClampNeg < mL q1.2.2 v8 ∧ v8 < mN q1.2.2)
    (p_let (sJ q1.2.2 v8 (0 : Int32).toNatClampNeg q1.2.1.toInt64) fun m4 =>
    some ((0 : Int32), m4)))
  else if q1.1 = 3 then (some ((1 : Int32), q1.2.2))
  else if q1.1 = 1 then (some ((2 : Int32), q1.2.2))
  else if q1.1 = 2 then (some ((3 : Int32), q1.2.2))
  else none)
theorem E_L_lot {X : p_X} {d : Nat} {Q : p_R → Prop} {v0 : Nat} {v1 : Int32} {v2 : Int32} {v3 : Int32} {v4 : Int32} {v5 : Int32} {v6 : Int32} {v7 : Int32} {v8 : Nat} {μ : p_M} {r : Int32 × p_M} (h : F_L_lot v0 v1 v2 v3 v4 v5 v6 v7 v8 μ = some r) (hQ : Q ((0, some (.int r.1)), r.2)) : p_Ev X (d + 3) M_L_lot 0 [.ref v0, .int v1, .int v2, .int v3, .int v4, .int v5, .int v6, .int v7, .ref v8, .double 0] [] μ Q := by
  unfold F_L_lot at h
  refine e_aload dL_lot_0 rfl ?_
  refine e_iconst (v := (0 : Int32)) dL_lot_2 rfl ?_
  refine e_aload_n dL_lot_3 rfl ?_
  refine e_iload_n dL_lot_4 rfl ?_
  refine e_iload_n dL_lot_5 rfl ?_
  refine e_iload_n dL_lot_6 rfl ?_
  refine e_iload dL_lot_7 rfl ?_
  refine e_iload dL_lot_9 rfl ?_
  refine e_iload dL_lot_11 rfl ?_
  refine e_iload dL_lot_13 rfl ?_
  obtain ⟨h2, h⟩ := p_ok_some h
  obtain ⟨q1, hq1, h⟩ := p_bd h
  refine f_hVi dL_lot_15 rfl rfl ⟨rfl, rfl, by decide⟩ rfl h2 (by decide) (fun Q' hQ' => E_X12_lot hq1 hQ') (fun hc => ?_) (fun hc => ?_)
  · rw [if_pos hc] at h
    refine e_i2l dL_lot_18 ?_
    obtain ⟨h3, h⟩ := p_ok_some h
    replace h := p_lt h
    refine e_laS dL_lot_19 h3 ?_
    refine e_goto dL_lot_20 35 (by decide) ?_
    refine e_iconst (v := (0 : Int32)) dL_lot_35 rfl ?_
    cases h
    exact e_ireti dL_lot_36 rfl hQ
  · rw [if_neg hc] at h
    by_cases hc : q1.1 = 3
    · rw [if_pos hc] at h
      refine ⟨23, by rw [hc]; rfl, ?_⟩
      refine e_astZ dL_lot_23 (Nat.le_of_ble_eq_true rfl) rfl ?_
      refine e_iconst (v := (1 : Int32)) dL_lot_25 rfl ?_
      cases h
      exact e_ireti dL_lot_26 rfl hQ
    rw [if_neg hc] at h
    by_cases hc : q1.1 = 1
    · rw [if_pos hc] at h
      refine ⟨27, by rw [hc]; rfl, ?_⟩
      refine e_astZ dL_lot_27 (Nat.le_of_ble_eq_true rfl) rfl ?_
      refine e_iconst (v := (2 : Int32)) dL_lot_29 rfl ?_
      cases h
      exact e_ireti dL_lot_30 rfl hQ
    rw [if_neg hc] at h
    by_cases hc : q1.1 = 2
    · rw [if_pos hc] at h
      refine ⟨31, by rw [hc]; rfl, ?_⟩
      refine e_astZ dL_lot_31 (Nat.le_of_ble_eq_true rfl) rfl ?_
      refine e_iconst (v := (3 : Int32)) dL_lot_33 rfl ?_
      cases h
      exact e_ireti dL_lot_34 rfl hQ
    rw [if_neg hc] at h
    cases h
/-! X12_machine -/
def F_X12_machine (v0 : Nat) (v1 : Int32) (μ : p_M) : Option (Nat × Int32 × p_M) :=
  (F_X12_within v1 (1 : Int32) (60 : Int32) μ).bind fun q1 =>
  (F_X12_need q1.1 q1.2).bind fun q2 =>
  if q2.1 = 0
  then (p_ok (mK q2.2.2 v0 = 13 ∧ v0 < mN q2.2.2)
    ((F_X12_needRoom (mI q2.2.2 v0 13) (4 : Int32) q2.2.2).bind fun q4 =>
    if q4.1 = 0
    then (p_ok (mK q4.2.2 v0 = 13 ∧ v0 < mN q4.2.2)
      ((mR q4.2.2 v0 12).bind fun q6 =>
      p_ok (23 ≤ mK q4.2.2 q6 ∧ mK q4.2.2 q6 ≤ 26 ∧ ¬ (mI q4.2.2 v0 13) < 0 ∧ (mI q4.2.2 v0 13).toNatClampNeg < mL q4.2.2 q6 ∧ q6 < mN q4.2.2)
      ((mR q4.2.2 q6 (mI q4.2.2 v0 13).toNatClampNeg).bind fun q8 =>
      p_ok (mK q4.2.2 q8 = 6 ∧ q8 < mN q4.2.2)
      (p_let (sI q4.2.2 q8 0 v1) fun m10 =>
      p_let (sI m10 v0 13 ((mI m10 v0 13) + (1 : Int32))) fun m11 =>
      some (0, (mI m10 v0 13), m11)))))
    else (some (q4.1, 0, q4.2.2))))
  else (some (q2.1, 0, q2.2.2))
theorem E_X12_machine {X : p_X} {d : Nat} {Q : p_R → Prop} {v0 : Nat} {v1 : Int32} {μ : p_M} {r : Nat × Int32 × p_M} (h : F_X12_machine v0 v1 μ = some r) (hQ : Q (tI r)) : p_Ev X (d + 1) M_X12_machine 0 [.ref v0, .int v1] [] μ Q := by
  unfold F_X12_machine at h
  refine e_iload_n dX12_machine_0 rfl ?_
  refine e_iconst (v := (1 : Int32)) dX12_machine_1 rfl ?_
  refine e_bipush (v := (60 : Int32)) dX12_machine_2 rfl ?_
  obtain ⟨q1, hq1, h⟩ := p_bd h
  refine f_cSi dX12_machine_4 rfl rfl rfl rfl (fun Q' hQ' => E_X12_within hq1 hQ') ?_
  obtain ⟨q2, hq2, h⟩ := p_bd h
  refine f_tSv dX12_machine_7 rfl rfl rfl rfl (by decide) rfl (fun Q' hQ' => E_X12_need hq2 hQ') (fun hc => ?_) (fun hc => ?_)
  · rw [if_pos hc] at h
    refine e_aload_n dX12_machine_10 rfl ?_
    obtain ⟨h3, h⟩ := p_ok_some h
    refine e_getI dX12_machine_11 rfl rfl h3.1 h3.2 ?_
    refine e_iconst (v := (4 : Int32)) dX12_machine_14 rfl ?_
    obtain ⟨q4, hq4, h⟩ := p_bd h
    refine f_tSv dX12_machine_15 rfl rfl rfl rfl (by decide) rfl (fun Q' hQ' => E_X12_needRoom hq4 hQ') (fun hc => ?_) (fun hc => ?_)
    · rw [if_pos hc] at h
      refine e_aload_n dX12_machine_18 rfl ?_
      obtain ⟨h5, h⟩ := p_ok_some h
      obtain ⟨q6, hq6, h⟩ := p_bd h
      refine e_getR dX12_machine_19 rfl rfl h5.1 h5.2 hq6 ?_
      refine e_aload_n dX12_machine_22 rfl ?_
      refine e_getI dX12_machine_23 rfl rfl h5.1 h5.2 ?_
      obtain ⟨h7, h⟩ := p_ok_some h
      obtain ⟨q8, hq8, h⟩ := p_bd h
      refine e_aald dX12_machine_26 h7 hq8 ?_
      refine e_iload_n dX12_machine_27 rfl ?_
      obtain ⟨h9, h⟩ := p_ok_some h
      replace h := p_lt h
      refine e_putI dX12_machine_28 rfl ⟨rfl, rfl, (fun _ => rfl)⟩ (fun h => by cases h) h9.1 h9.2 ?_
      refine e_aload_n dX12_machine_31 rfl ?_
      refine e_dupR dX12_machine_32 ?_
      refine e_getI dX12_machine_33 rfl rfl h5.1 h5.2 ?_
      refine e_dup_x1 dX12_machine_36 ?_
      refine e_iconst (v := (1 : Int32)) dX12_machine_37 rfl ?_
      refine e_iadd dX12_machine_38 ?_
      replace h := p_lt h
      refine e_putI dX12_machine_39 rfl ⟨rfl, rfl, (fun h => by cases h)⟩ (fun h => by cases h) h5.1 h5.2 ?_
      cases h
      exact e_ireti dX12_machine_42 rfl hQ
    · rw [if_neg hc] at h
      cases h
      exact tI_E hc hQ
  · rw [if_neg hc] at h
    cases h
    exact tI_E hc hQ
/-! L_machine -/
def F_L_machine (v0 : Nat) (v1 : Int32) (v2 : Nat) (μ : p_M) : Option (Int32 × p_M) :=
  p_ok (mK μ v0 = 13 ∧ v0 < mN μ)
  ((F_X12_machine v0 v1 μ).bind fun q1 =>
  if q1.1 = 0
  then (p_ok (mK q1.2.2 v2 = 22 ∧ ¬ (0 : Int32) < 0 ∧ (0 : Int32).toNatClampNeg < mL q1.2.2 v2 ∧ v2 < mN q1.2.2)
    (p_let (sJ q1.2.2 v2 (0 : Int32).toNatClampNeg q1.2.1.toInt64) fun m4 =>
    some ((0 : Int32), m4)))
  else if q1.1 = 1 then (some ((1 : Int32), q1.2.2))
  else if q1.1 = 2 then (some ((2 : Int32), q1.2.2))
  else none)
theorem E_L_machine {X : p_X} {d : Nat} {Q : p_R → Prop} {v0 : Nat} {v1 : Int32} {v2 : Nat} {μ : p_M} {r : Int32 × p_M} (h : F_L_machine v0 v1 v2 μ = some r) (hQ : Q ((0, some (.int r.1)), r.2)) : p_Ev X (d + 2) M_L_machine 0 [.ref v0, .int v1, .ref v2, .double 0] [] μ Q := by
  unfold F_L_machine at h
  refine e_aload_n dL_machine_0 rfl ?_
  refine e_iconst (v := (0 : Int32)) dL_machine_1 rfl ?_
  refine e_aload_n dL_machine_2 rfl ?_
  refine e_iload_n dL_machine_3 rfl ?_
  obtain ⟨h2, h⟩ := p_ok_some h
  obtain ⟨q1, hq1, h⟩ := p_bd h
  refine f_hVi dL_machine_4 rfl rfl ⟨rfl, rfl, by decide⟩ rfl h2 (by decide) (fun Q' hQ' => E_X12_machine hq1 hQ') (fun hc => ?_) (fun hc => ?_)
  · rw [if_pos hc] at h
    refine e_i2l dL_machine_7 ?_
    obtain ⟨h3, h⟩ := p_ok_some h
    replace h := p_lt h
    refine e_laS dL_machine_8 h3 ?_
    refine e_goto dL_machine_9 18 (by decide) ?_
    refine e_iconst (v := (0 : Int32)) dL_machine_18 rfl ?_
    cases h
    exact e_ireti dL_machine_19 rfl hQ
  · rw [if_neg hc] at h
    by_cases hc : q1.1 = 1
    · rw [if_pos hc] at h
      refine ⟨12, by rw [hc]; rfl, ?_⟩
      refine e_astZ_n dL_machine_12 (Nat.le_of_ble_eq_true rfl) rfl ?_
      refine e_iconst (v := (1 : Int32)) dL_machine_13 rfl ?_
      cases h
      exact e_ireti dL_machine_14 rfl hQ
    rw [if_neg hc] at h
    by_cases hc : q1.1 = 2
    · rw [if_pos hc] at h
      refine ⟨15, by rw [hc]; rfl, ?_⟩
      refine e_astZ_n dL_machine_15 (Nat.le_of_ble_eq_true rfl) rfl ?_
      refine e_iconst (v := (2 : Int32)) dL_machine_16 rfl ?_
      cases h
      exact e_ireti dL_machine_17 rfl hQ
    rw [if_neg hc] at h
    cases h
/-! X6_tell -/
def F_X6_tell (v0 : Nat) (v1 : Int32) (v2 : Int32) (v3 : Int32) (μ : p_M) : Option (Int32 × p_M) :=
  p_ok (mK μ v0 = 7 ∧ v0 < mN μ)
  (if (mI μ v0 3) < (250 : Int32)
  then ((mR μ v0 0).bind fun q2 =>
    p_ok (q2 < p_E ∧ mK μ q2 = 20 ∧ q2 < mN μ)
    (p_ok (¬ (mI μ v0 3) < 0 ∧ (mI μ v0 3).toNatClampNeg < mL μ q2)
    (p_let (sI μ q2 (mI μ v0 3).toNatClampNeg v1) fun m5 =>
    (mR m5 v0 1).bind fun q6 =>
    p_ok (q6 < p_E ∧ mK m5 q6 = 20 ∧ q6 < mN m5)
    (p_ok (¬ (mI m5 v0 3) < 0 ∧ (mI m5 v0 3).toNatClampNeg < mL m5 q6)
    (p_let (sI m5 q6 (mI m5 v0 3).toNatClampNeg v2) fun m9 =>
    (mR m9 v0 2).bind fun q10 =>
    p_ok (q10 < p_E ∧ mK m9 q10 = 20 ∧ q10 < mN m9)
    (p_ok (¬ (mI m9 v0 3) < 0 ∧ (mI m9 v0 3).toNatClampNeg < mL m9 q10)
    (p_let (sI m9 q10 (mI m9 v0 3).toNatClampNeg v3) fun m13 =>
    p_let (sI m13 v0 3 ((mI m13 v0 3) + (1 : Int32))) fun m14 =>
    some (((mI m14 v0 3) - (1 : Int32)), m14))))))))
  else (some ((-1), μ)))
theorem E_X6_tell {X : p_X} {d : Nat} {Q : p_R → Prop} {v0 : Nat} {v1 : Int32} {v2 : Int32} {v3 : Int32} {μ : p_M} {r : Int32 × p_M} (h : F_X6_tell v0 v1 v2 v3 μ = some r) (hQ : Q ((0, some (.int r.1)), r.2)) : p_Ev X (d + 0) M_X6_tell 0 [.ref v0, .int v1, .int v2, .int v3] [] μ Q := by
  unfold F_X6_tell at h
  refine e_aload_n dX6_tell_0 rfl ?_
  obtain ⟨h1, h⟩ := p_ok_some h
  refine e_getI dX6_tell_1 rfl rfl h1.1 h1.2 ?_
  refine e_sipush (v := (250 : Int32)) dX6_tell_4 rfl ?_
  refine e_ic_lt dX6_tell_7 12 (by decide) (fun hc => ?_) (fun hc => ?_)
  · rw [if_pos hc] at h
    refine e_aload_n dX6_tell_12 rfl ?_
    obtain ⟨q2, hq2, h⟩ := p_bd h
    refine e_getR dX6_tell_13 rfl rfl h1.1 h1.2 hq2 ?_
    refine e_aload_n dX6_tell_16 rfl ?_
    refine e_getI dX6_tell_17 rfl rfl h1.1 h1.2 ?_
    refine e_iload_n dX6_tell_20 rfl ?_
    obtain ⟨h3, h⟩ := p_ok_some h
    obtain ⟨h4, h⟩ := p_ok_some h
    replace h := p_lt h
    refine e_iaS dX6_tell_21 h3 h4 ?_
    refine e_aload_n dX6_tell_22 rfl ?_
    obtain ⟨q6, hq6, h⟩ := p_bd h
    refine e_getR dX6_tell_23 rfl rfl h1.1 h1.2 hq6 ?_
    refine e_aload_n dX6_tell_26 rfl ?_
    refine e_getI dX6_tell_27 rfl rfl h1.1 h1.2 ?_
    refine e_iload_n dX6_tell_30 rfl ?_
    obtain ⟨h7, h⟩ := p_ok_some h
    obtain ⟨h8, h⟩ := p_ok_some h
    replace h := p_lt h
    refine e_iaS dX6_tell_31 h7 h8 ?_
    refine e_aload_n dX6_tell_32 rfl ?_
    obtain ⟨q10, hq10, h⟩ := p_bd h
    refine e_getR dX6_tell_33 rfl rfl h1.1 h1.2 hq10 ?_
    refine e_aload_n dX6_tell_36 rfl ?_
    refine e_getI dX6_tell_37 rfl rfl h1.1 h1.2 ?_
    refine e_iload_n dX6_tell_40 rfl ?_
    obtain ⟨h11, h⟩ := p_ok_some h
    obtain ⟨h12, h⟩ := p_ok_some h
    replace h := p_lt h
    refine e_iaS dX6_tell_41 h11 h12 ?_
    refine e_aload_n dX6_tell_42 rfl ?_
    refine e_dupR dX6_tell_43 ?_
    refine e_getI dX6_tell_44 rfl rfl h1.1 h1.2 ?_
    refine e_iconst (v := (1 : Int32)) dX6_tell_47 rfl ?_
    refine e_iadd dX6_tell_48 ?_
    replace h := p_lt h
    refine e_putI dX6_tell_49 rfl ⟨rfl, rfl, (fun h => by cases h)⟩ (fun h => by cases h) h1.1 h1.2 ?_
    refine e_aload_n dX6_tell_52 rfl ?_
    refine e_getI dX6_tell_53 rfl rfl h1.1 h1.2 ?_
    refine e_iconst (v := (1 : Int32)) dX6_tell_56 rfl ?_
    refine e_isub dX6_tell_57 ?_
    cases h
    exact e_ireti dX6_tell_58 rfl hQ
  · rw [if_neg hc] at h
    refine e_iconst (v := (-1)) dX6_tell_10 rfl ?_
    cases h
    exact e_ireti dX6_tell_11 rfl hQ
