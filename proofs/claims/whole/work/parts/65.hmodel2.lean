def rr6 (μ : p_M) : Option (Int32 × p_M) := (F_X13_isWord (p_E + 10 + 3) μ).bind fun q8 => if q8.1 = 0 then (F_X13_readRule_c183 q8.2) else ((F_X13_sets (17 : Int32) (0 : Int32) (50 : Int32) q8.2).bind fun q9 => if q9.1 = 0 then (F_X13_readRule_c183 q9.2) else (F_X13_readRule_c184 (1 : Int32) q9.2))
def rr5 (μ : p_M) : Option (Int32 × p_M) := (F_X13_isWord (p_E + 10 + 9) μ).bind fun q7 => if q7.1 = 0 then rr6 q7.2 else ((F_X13_sets (16 : Int32) (1 : Int32) (20 : Int32) q7.2).bind fun q10 => p_ok (q10.1 = 0 ∨ q10.1 = 1) (some (q10.1, q10.2)))
def rr4 (μ : p_M) : Option (Int32 × p_M) := (F_X13_isWord (p_E + 10 + 1) μ).bind fun q6 => if q6.1 = 0 then rr5 q6.2 else ((F_X13_readAgain q6.2).bind fun q11 => p_ok (q11.1 = 0 ∨ q11.1 = 1) (some (q11.1, q11.2)))
def rr2 (μ : p_M) : Option (Int32 × p_M) := (F_X13_isWord (p_E + 10 + 7) μ).bind fun q5 => if q5.1 = 0 then rr4 q5.2 else ((F_X13_sets (8 : Int32) (1 : Int32) (20 : Int32) q5.2).bind fun q12 => p_ok (q12.1 = 0 ∨ q12.1 = 1) (some (q12.1, q12.2)))
def rr1 (μ : p_M) : Option (Int32 × p_M) := (F_X13_isWord (p_E + 10 + 10) μ).bind fun q4 => if q4.1 = 0 then rr2 q4.2 else ((F_X13_readPours q4.2).bind fun q13 => p_ok (q13.1 = 0 ∨ q13.1 = 1) (some (q13.1, q13.2)))
def rr3 (μ : p_M) : Option (Int32 × p_M) := (F_X13_isWord (p_E + 10 + 8) μ).bind fun q3 => if q3.1 = 0 then rr1 q3.2 else ((F_X13_readBath q3.2).bind fun q14 => if q14.1 < 0 then (F_X13_readRule_c85 q14.2) else ((F_X13_sets ((9 : Int32) + q14.1) (1 : Int32) (60 : Int32) q14.2).bind fun q15 => if q15.1 = 0 then (F_X13_readRule_c85 q15.2) else (F_X13_readRule_c86 (1 : Int32) q15.2)))
def rr0b (μ : p_M) : Option (Int32 × p_M) := ((F_X13_readBath μ).bind fun q16 => if q16.1 < 0 then (F_X13_readRule_c46 q16.2) else ((F_X13_sets q16.1 (0 : Int32) (100 : Int32) q16.2).bind fun q17 => if q17.1 = 0 then (F_X13_readRule_c46 q17.2) else (F_X13_readRule_c47 (1 : Int32) q17.2)))
def rr0 (μ : p_M) : Option (Int32 × p_M) := (F_X13_isWord (p_E + 10 + 4) μ).bind fun q2 => if q2.1 = 0 then rr3 q2.2 else rr0b q2.2
theorem rr_eq (v1 : Int32) (μ : p_M) : F_X13_readRule v1 μ = (F_X13_word μ).bind fun q1 => if ¬ v1 = (24 : Int32) then rr0 q1.2 else (some ((0 : Int32), q1.2)) := rfl
theorem bindIf {A B : p_M → Option (Int32 × p_M)} {F : Option (Int32 × p_M)} {μ : p_M} (h : F = some (0, μ)) : (F.bind fun q => if q.1 = 0 then A q.2 else B q.2) = A μ := by
  rw [h]
  rfl
theorem rr0_0 {μ : p_M} (h : F_X13_isWord (p_E + 10 + 4) μ = some (0, μ)) : rr0 μ = rr3 μ := bindIf (A := rr3) (B := rr0b) h
theorem rr3_0 {μ : p_M} (h : F_X13_isWord (p_E + 10 + 8) μ = some (0, μ)) : rr3 μ = rr1 μ := by
  simp only [rr3, h, bd_some, ↓reduceIte]
theorem rr1_0 {μ : p_M} (h : F_X13_isWord (p_E + 10 + 10) μ = some (0, μ)) : rr1 μ = rr2 μ := by
  simp only [rr1, h, bd_some, ↓reduceIte]
theorem rr2_0 {μ : p_M} (h : F_X13_isWord (p_E + 10 + 7) μ = some (0, μ)) : rr2 μ = rr4 μ := by
  simp only [rr2, h, bd_some, ↓reduceIte]
theorem rr4_0 {μ : p_M} (h : F_X13_isWord (p_E + 10 + 1) μ = some (0, μ)) : rr4 μ = rr5 μ := by
  simp only [rr4, h, bd_some, ↓reduceIte]
theorem rr5_0 {μ : p_M} (h : F_X13_isWord (p_E + 10 + 9) μ = some (0, μ)) : rr5 μ = rr6 μ := by
  simp only [rr5, h, bd_some, ↓reduceIte]
theorem m_rule {f : Nat → Int32} {e k n : Nat} {s : Nat → Int32} {μ : p_M} (hT : MT μ f e k) (hn : n ≤ 24) (hs : ∀ j, j < 18 → mI μ 84 (18 + j) = s j) : ∃ v μ', F_X13_readRule (nI n) μ = some (v, μ') ∧ Fh μ μ' ∧ mO f e v μ' (rul f e n k s) := by
  have w1 := m_wd hT
  have le := wd_le (f := f) hT.2.2.2.2
  have q24 : (nI n = 24) = (n = 24) := propext (nI_eq (show n < 2 ^ 31 by omega) (show 24 < 2 ^ 31 by decide))
  unfold rul
  by_cases cn : n = 24
  · rw [if_pos cn]
    have q24 : (nI n = 24) = True := by rw [q24]; exact eq_true cn
    refine ⟨0, mset μ (wd f e k) (bl f e k), ?_, Fh_mset _ _, rfl, mI_mset5⟩
    simp only [rr_eq, bd_some, w1, q24, not_true_eq_false, ↓reduceIte]
  · rw [if_neg cn]
    have q24 : (nI n = 24) = False := by rw [q24]; exact eq_false cn
    have st : F_X13_readRule (nI n) μ = rr0 (mset μ (wd f e k) (bl f e k)) := by
      simp only [rr_eq, bd_some, w1, q24, not_false_eq_true, ↓reduceIte]
    rw [st]
    clear st
    have hT1 : MT (mset μ (wd f e k) (bl f e k)) f e (wd f e k) := MT_mset hT le.2
    have hs1 := hs_mset (k := wd f e k) (b := bl f e k) hs
    have F1 : Fh μ (mset μ (wd f e k) (bl f e k)) := Fh_mset _ _
    have t0 := m_isw' (V := p_E + 10 + 4) hT w_bears (by decide) tR_bears
    have t1 := m_isw' (V := p_E + 10 + 10) hT w_pours (by decide) tR_pours
    have t2 := m_isw' (V := p_E + 10 + 7) hT w_litres (by decide) tR_litres
    have t3 := m_isw' (V := p_E + 10 + 8) hT w_minutes (by decide) tR_minutes
    have t4 := m_isw' (V := p_E + 10 + 1) hT w_again (by decide) tR_again
    have t5 := m_isw' (V := p_E + 10 + 9) hT w_pack (by decide) tR_pack
    have t6 := m_isw' (V := p_E + 10 + 3) hT w_band (by decide) tR_band
    unfold pW
    cases hp : plc f (bl f e k) (wd f e k) ws_R7 0 with
    | none =>
      rw [bI_neg (plc_no _ _ hp w_bears (by decide))] at t0
      rw [bI_neg (plc_no _ _ hp w_pours (by decide))] at t1
      rw [bI_neg (plc_no _ _ hp w_litres (by decide))] at t2
      rw [bI_neg (plc_no _ _ hp w_minutes (by decide))] at t3
      rw [bI_neg (plc_no _ _ hp w_again (by decide))] at t4
      rw [bI_neg (plc_no _ _ hp w_pack (by decide))] at t5
      rw [bI_neg (plc_no _ _ hp w_band (by decide))] at t6
      refine ⟨0, mset μ (wd f e k) (bl f e k), ?_, F1, rfl, mI_mset5⟩
      rw [rr0_0 t0, rr3_0 t3, rr1_0 t1, rr2_0 t2, rr4_0 t4, rr5_0 t5]
      simp only [rr6, F_X13_readRule_c183, F_X13_readRule_c184, bd_some, p_ok, t6, eq_self, true_or, ↓reduceIte]
    | some y =>
      have hnw := (plc_nth _ _ _ hp).1
      rw [Nat.sub_zero] at hnw
      obtain ⟨w, h1, h2⟩ : ∃ w, nthw ws_R7 y = w ∧ isw f (bl f e k) (wd f e k) w = true := ⟨_, rfl, hnw⟩
      clear hnw
      have hy : y < 7 := plc_lt _ _ _ hp
      have no : ∀ v, v ≠ w → ¬ isw f (bl f e k) (wd f e k) v = true := fun v hv h => hv (isw_inj h h2)
      have hbd : ∀ {g : Nat × Nat → HO}, bnd (match some y with
        | none => (.inl (bl f e k) : Nat ⊕ (Nat × Nat))
        | some x => .inr (x, wd f e k)) g = g (y, wd f e k) := rfl
      rw [hbd]
      clear hbd
      generalize mset μ (wd f e k) (bl f e k) = μ1 at *
      generalize wd f e k = k1 at *
      dsimp only
      have fin : ∀ (F : Option (Int32 × p_M)) (o : HO), (∃ v μ', F = some (v, μ') ∧ Fh μ1 μ' ∧ mO f e v μ' o) → ∃ v μ', (F.bind fun q => p_ok (q.1 = 0 ∨ q.1 = 1) (some (q.1, q.2))) = some (v, μ') ∧ Fh μ μ' ∧ mO f e v μ' o := by
        intro F o ⟨v, μ', h1, h2, h3⟩
        refine ⟨v, μ', ?_, Fh_trans F1 h2, h3⟩
        rw [h1]
        simp only [bd_some, p_ok]
        rw [if_pos (mO01 h3)]
      rcases i7 hy with h | h | h | h | h | h | h
      · rw [h] at h1
        rw [if_pos h]
        have hw : w_bears = w := h1
        subst hw
        rw [bI_pos h2] at t0
        obtain ⟨v, μ', b1, b2, b3⟩ := m_rB (w := 0) (lo := 0) (hi := 100) hT1 (by decide) (by decide) hs1
        simp only [show nI 0 = 0 from rfl, Int32.zero_add] at b1
        refine ⟨v, μ', ?_, Fh_trans F1 b2, b3⟩
        simp only [rr0, rr0b, F_X13_readRule_c46, F_X13_readRule_c47, bd_some, p_ok, t0, i_10, eq_self, true_or, or_true, ↓reduceIte]
        exact b1
      · rw [h] at h1
        rw [if_neg (show ¬ y = 0 by omega), if_pos h]
        have hw : w_pours = w := h1
        subst hw
        rw [bI_neg (no w_bears (by decide))] at t0
        rw [bI_neg (no w_minutes (by decide))] at t3
        rw [bI_pos h2] at t1
        have := fin _ _ (m_rP hT1 hs1)
        rw [rr0_0 t0, rr3_0 t3]
        simp only [rr1, bd_some, t1, i_10, ↓reduceIte]
        exact this
      · rw [h] at h1
        rw [if_neg (show ¬ y = 0 by omega), if_neg (show ¬ y = 1 by omega), if_pos h]
        have hw : w_litres = w := h1
        subst hw
        rw [bI_neg (no w_bears (by decide))] at t0
        rw [bI_neg (no w_minutes (by decide))] at t3
        rw [bI_neg (no w_pours (by decide))] at t1
        rw [bI_pos h2] at t2
        have := fin _ _ (m_rN (w := 8) (lo := 1) (hi := 20) hT1 (by decide) (by decide) hs1)
        rw [rr0_0 t0, rr3_0 t3, rr1_0 t1]
        simp only [rr2, bd_some, t2, i_10, ↓reduceIte]
        exact this
      · rw [h] at h1
        rw [if_neg (show ¬ y = 0 by omega), if_neg (show ¬ y = 1 by omega), if_neg (show ¬ y = 2 by omega), if_pos h]
        have hw : w_minutes = w := h1
        subst hw
        rw [bI_neg (no w_bears (by decide))] at t0
        rw [bI_pos h2] at t3
        obtain ⟨v, μ', b1, b2, b3⟩ := m_rB (w := 9) (lo := 1) (hi := 60) hT1 (by decide) (by decide) hs1
        refine ⟨v, μ', ?_, Fh_trans F1 b2, b3⟩
        rw [rr0_0 t0]
        simp only [rr3, F_X13_readRule_c85, F_X13_readRule_c86, bd_some, p_ok, t3, i_10, eq_self, true_or, or_true, ↓reduceIte]
        exact b1
      · rw [h] at h1
        rw [if_neg (show ¬ y = 0 by omega), if_neg (show ¬ y = 1 by omega), if_neg (show ¬ y = 2 by omega), if_neg (show ¬ y = 3 by omega), if_pos h]
        have hw : w_again = w := h1
        subst hw
        rw [bI_neg (no w_bears (by decide))] at t0
        rw [bI_neg (no w_minutes (by decide))] at t3
        rw [bI_neg (no w_pours (by decide))] at t1
        rw [bI_neg (no w_litres (by decide))] at t2
        rw [bI_pos h2] at t4
        have := fin _ _ (m_rA hT1 hs1)
        rw [rr0_0 t0, rr3_0 t3, rr1_0 t1, rr2_0 t2]
        simp only [rr4, bd_some, t4, i_10, ↓reduceIte]
        exact this
      · rw [h] at h1
        rw [if_neg (show ¬ y = 0 by omega), if_neg (show ¬ y = 1 by omega), if_neg (show ¬ y = 2 by omega), if_neg (show ¬ y = 3 by omega), if_neg (show ¬ y = 4 by omega), if_pos h]
        have hw : w_pack = w := h1
        subst hw
        rw [bI_neg (no w_bears (by decide))] at t0
        rw [bI_neg (no w_minutes (by decide))] at t3
        rw [bI_neg (no w_pours (by decide))] at t1
        rw [bI_neg (no w_litres (by decide))] at t2
        rw [bI_neg (no w_again (by decide))] at t4
        rw [bI_pos h2] at t5
        have := fin _ _ (m_rN (w := 16) (lo := 1) (hi := 20) hT1 (by decide) (by decide) hs1)
        rw [rr0_0 t0, rr3_0 t3, rr1_0 t1, rr2_0 t2, rr4_0 t4]
        simp only [rr5, bd_some, t5, i_10, ↓reduceIte]
        exact this
      · rw [h] at h1
        rw [if_neg (show ¬ y = 0 by omega), if_neg (show ¬ y = 1 by omega), if_neg (show ¬ y = 2 by omega), if_neg (show ¬ y = 3 by omega), if_neg (show ¬ y = 4 by omega), if_neg (show ¬ y = 5 by omega)]
        have hw : w_band = w := h1
        subst hw
        rw [bI_neg (no w_bears (by decide))] at t0
        rw [bI_neg (no w_minutes (by decide))] at t3
        rw [bI_neg (no w_pours (by decide))] at t1
        rw [bI_neg (no w_litres (by decide))] at t2
        rw [bI_neg (no w_again (by decide))] at t4
        rw [bI_neg (no w_pack (by decide))] at t5
        rw [bI_pos h2] at t6
        obtain ⟨v, μ', b1, b2, b3⟩ := m_rN (w := 17) (lo := 0) (hi := 50) hT1 (by decide) (by decide) hs1
        have b1 : F_X13_sets 17 0 50 μ1 = some (v, μ') := b1
        refine ⟨v, μ', ?_, Fh_trans F1 b2, b3⟩
        rcases mO01 b3 with rfl | rfl
        · rw [rr0_0 t0, rr3_0 t3, rr1_0 t1, rr2_0 t2, rr4_0 t4, rr5_0 t5]
          simp only [rr6, F_X13_readRule_c183, F_X13_readRule_c184, bd_some, p_ok, t6, b1, i_10, eq_self, true_or, or_true, ↓reduceIte]
        · rw [rr0_0 t0, rr3_0 t3, rr1_0 t1, rr2_0 t2, rr4_0 t4, rr5_0 t5]
          simp only [rr6, F_X13_readRule_c183, F_X13_readRule_c184, bd_some, p_ok, t6, b1, i_10, eq_self, true_or, or_true, ↓reduceIte]
abbrev mHO (v : Int32) (μ' : p_M) (o : HO) : Prop := match o with
  | .inl p => v = -1 ∧ mI μ' 65 5 = nI p
  | .inr q => v = nI q.1 ∧ ∀ j, j < 18 → mI μ' 84 (18 + j) = q.2 j
theorem m_hou {f : Nat → Int32} {e : Nat} : ∀ (r n k m : Nat) (μ : p_M) (s : Nat → Int32), e - k < r → n ≤ 24 → r ≤ m → MT μ f e k → okS s → (∀ j, j < 18 → mI μ 84 (18 + j) = s j) → ∃ v μ', F_X13_readHouse_c23 m (nI n) μ = some (v, μ') ∧ Fh μ μ' ∧ mHO v μ' (houP f e r n k s) := by
  intro r
  induction r with
  | zero => intro n k m μ s h; omega
  | succ r ih =>
    intro n k m μ s hr hn hm hT hok hs
    obtain ⟨m, rfl⟩ : ∃ k, m = k + 1 := ⟨m - 1, by omega⟩
    have hk := hT.2.2.2.2
    have h4 := hT.2.2.2.1
    have a1 : nI n + 1 = nI (n + 1) := nI_add n 1
    obtain ⟨v, μ1, b1, b2, b3⟩ := m_rule hT hn hs
    unfold houP
    cases hu : rul f e n k s with
    | inl p =>
      rw [hu] at b3
      obtain ⟨rfl, b4⟩ := b3
      refine ⟨-1, μ1, ?_, b2, rfl, b4⟩
      simp only [F_X13_readHouse_c23, bd_some, b1, not_true_eq_false, ↓reduceIte]
    | inr q =>
      rw [hu] at b3
      obtain ⟨rfl, hT1, hs1⟩ := b3
      obtain ⟨hok2, q1, q2⟩ := rul_ok hk hok hu
      rw [bnd_r]
      have hn24 : n < 24 := by
        by_cases c : n = 24
        · unfold rul at hu
          rw [if_pos c] at hu
          cases hu
        · omega
      have bk : F_X13_blanks μ1 = some (0, mset μ1 (bl f e q.1) (bl f e q.1)) := m_blanks' hT1
      have hb := bl_le (f := f) q2
      have hT2 : MT (mset μ1 (bl f e q.1) (bl f e q.1)) f e (bl f e q.1) := MT_mset hT1 hb.2
      have q34 : (nI (bl f e q.1) = nI e) = (bl f e q.1 = e) := propext (nI_eq (by omega) (by omega))
      by_cases c5 : bl f e q.1 < e
      · rw [if_pos c5]
        have q34 : (nI (bl f e q.1) = nI e) = False := by rw [q34]; exact eq_false (by omega)
        by_cases c6 : f (bl f e q.1) = 59
        · rw [if_pos c6]
          have c6' : bl f e q.1 < e ∧ isA 59 59 (f (bl f e q.1)) = true := ⟨c5, by rw [isA_one]; exact c6⟩
          have ia := m_isAt hT2 59 59
          rw [bI_pos c6'] at ia
          have a2 : nI (bl f e q.1) + 1 = nI (bl f e q.1 + 1) := nI_add _ 1
          obtain ⟨v', μ', p1, p2, p3⟩ := ih (n + 1) (bl f e q.1 + 1) m (mset μ1 (bl f e q.1 + 1) (bl f e q.1)) q.2 (by omega) (by omega) (by omega) (MT_mset hT1 (by omega)) hok2 (hs_mset hs1)
          refine ⟨v', μ', ?_, Fh_trans b2 (Fh_trans (Fh_mset _ _) p2), p3⟩
          simp only [F_X13_readHouse_c23, bd_some, b1, bk, tM, hT2.2.2.1, hT2.2.1, q34, ia, i_10, a1, a2, mset_3, not_false_eq_true, ↓reduceIte]
          exact p1
        · rw [if_neg c6]
          have c6' : ¬ (bl f e q.1 < e ∧ isA 59 59 (f (bl f e q.1)) = true) := fun h => c6 (by have := h.2; rw [isA_one] at this; exact this)
          have ia := m_isAt hT2 59 59
          rw [bI_neg c6'] at ia
          refine ⟨-1, mset μ1 (bl f e q.1) (bl f e q.1), ?_, Fh_trans b2 (Fh_mset _ _), rfl, mI_mset5⟩
          simp only [F_X13_readHouse_c23, bd_some, b1, bk, tM, hT2.2.2.1, hT2.2.1, q34, ia, i_10, not_false_eq_true, not_true_eq_false, ↓reduceIte]
      · rw [if_neg c5]
        have q34 : (nI (bl f e q.1) = nI e) = True := by rw [q34]; exact eq_true (by omega)
        refine ⟨nI (n + 1), mset μ1 (bl f e q.1) (bl f e q.1), ?_, Fh_trans b2 (Fh_mset _ _), rfl, hs_mset hs1⟩
        simp only [F_X13_readHouse_c23, bd_some, b1, bk, tM, hT2.2.2.1, hT2.2.1, q34, i_10, a1, not_false_eq_true, not_true_eq_false, ↓reduceIte]
/-- what the house says at first -/
def at0 (j : Nat) : Int32 := ([0, 0, 0, 0, -1, -1, -1, -1, 5, 3, 4, 5, 4, 0, 0, 1, 5, 4] : List Int32)[j]?.getD 0
theorem at0_ok : okS at0 := by
  refine ⟨fun j hj => ⟨0, by decide, ?_⟩, fun j hj => Or.inl ?_, ⟨5, by decide, by decide, rfl⟩, fun j hj => ?_, ⟨0, by decide, rfl⟩, ⟨0, by decide, rfl⟩, ⟨1, by decide, by decide, rfl⟩, ⟨5, by decide, by decide, rfl⟩, ⟨4, by decide, rfl⟩⟩
  · rcases (show j = 0 ∨ j = 1 ∨ j = 2 ∨ j = 3 by omega) with rfl | rfl | rfl | rfl <;> rfl
  · rcases (show j = 0 ∨ j = 1 ∨ j = 2 ∨ j = 3 by omega) with rfl | rfl | rfl | rfl <;> rfl
  · rcases (show j = 0 ∨ j = 1 ∨ j = 2 ∨ j = 3 by omega) with rfl | rfl | rfl | rfl
    · exact ⟨3, by decide, by decide, rfl⟩
    · exact ⟨4, by decide, by decide, rfl⟩
    · exact ⟨5, by decide, by decide, rfl⟩
    · exact ⟨4, by decide, by decide, rfl⟩
theorem m_first (μ : p_M) : ∃ μ', F_X13_asAtFirst μ = some (0, μ') ∧ Fh μ μ' ∧ (∀ k, mI μ' 65 k = mI μ 65 k) ∧ ∀ j, j < 18 → mI μ' 84 (18 + j) = at0 j := by
  refine ⟨sI (sI (sI (sI (sI (sI (sI (sI (sI (sI (sI (sI (sI (sI (sI (sI (sI (sI μ 84 18 0) 84 22 (-1)) 84 19 0) 84 23 (-1)) 84 20 0) 84 24 (-1)) 84 21 0) 84 25 (-1)) 84 26 5) 84 27 3) 84 28 4) 84 29 5) 84 30 4) 84 31 0) 84 32 0) 84 33 1) 84 34 5) 84 35 4, (rfl : F_X13_asAtFirst_c2 (99994 + 1 + 1 + 1 + 1 + 1 + 1) 0 μ = _), ⟨?_, fun j hj => ?_⟩, fun k => ?_, fun j hj => ?_⟩
  · repeat (first | exact Fq_refl _ | refine Fq_sI ?_ (by decide))
  · have h : ∀ m, 18 ≤ m → ¬ j = m := fun m hm => by omega
    simp only [mI_sI, mR_sI, mK_sI, mN_sI, mL_sI, mI_sG, mR_sG, mK_sG, mN_sG, mL_sG, mI_sJ, mR_sJ, mK_sJ, mN_sJ, mL_sJ, mI_sA, mR_sA, mK_sA, mN_sA, mL_sA, z_up, ↓reduceIte, reduceIte, Nat.reduceEqDiff, true_and, and_true, h 18 (by decide), h 19 (by decide), h 20 (by decide), h 21 (by decide), h 22 (by decide), h 23 (by decide), h 24 (by decide), h 25 (by decide), h 26 (by decide), h 27 (by decide), h 28 (by decide), h 29 (by decide), h 30 (by decide), h 31 (by decide), h 32 (by decide), h 33 (by decide), h 34 (by decide), h 35 (by decide)]
  · simp only [mI_sI, mR_sI, mK_sI, mN_sI, mL_sI, mI_sG, mR_sG, mK_sG, mN_sG, mL_sG, mI_sJ, mR_sJ, mK_sJ, mN_sJ, mL_sJ, mI_sA, mR_sA, mK_sA, mN_sA, mL_sA, z_up, ↓reduceIte, reduceIte, Nat.reduceEqDiff, true_and, and_true]
  · rcases (show j = 0 ∨ j = 1 ∨ j = 2 ∨ j = 3 ∨ j = 4 ∨ j = 5 ∨ j = 6 ∨ j = 7 ∨ j = 8 ∨ j = 9 ∨ j = 10 ∨ j = 11 ∨ j = 12 ∨ j = 13 ∨ j = 14 ∨ j = 15 ∨ j = 16 ∨ j = 17 by omega) with rfl | rfl | rfl | rfl | rfl | rfl | rfl | rfl | rfl | rfl | rfl | rfl | rfl | rfl | rfl | rfl | rfl | rfl <;> (simp only [mI_sI, mR_sI, mK_sI, mN_sI, mL_sI, mI_sG, mR_sG, mK_sG, mN_sG, mL_sG, mI_sJ, mR_sJ, mK_sJ, mN_sJ, mL_sJ, mI_sA, mR_sA, mK_sA, mN_sA, mL_sA, z_up, ↓reduceIte, reduceIte, Nat.reduceEqDiff, true_and, and_true, Nat.reduceAdd]; rfl)
