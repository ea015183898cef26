theorem m_isw' {μ : p_M} {f : Nat → Int32} {e k V : Nat} (hT : MT μ f e k) (w : List Int32) (hw : w.length ≤ 400) (h : tR V 0 w) : F_X13_isWord V (mset μ (wd f e k) (bl f e k)) = some (bI (isw f (bl f e k) (wd f e k) w = true), mset μ (wd f e k) (bl f e k)) := by
  have h4 := hT.2.2.2.1
  have hwd := wd_le (f := f) hT.2.2.2.2
  exact m_isw ((mI_msetO (by decide)).trans hT.1) mI_mset3 mI_mset5 hwd.1 (by omega) w hw h
theorem m_wd {μ : p_M} {f : Nat → Int32} {e k : Nat} (hT : MT μ f e k) : F_X13_word μ = some (0, mset μ (wd f e k) (bl f e k)) := m_word' hT
theorem mO01 {f : Nat → Int32} {e : Nat} {v : Int32} {μ : p_M} {o : HO} (h : mO f e v μ o) : v = 0 ∨ v = 1 := by
  cases o with
  | inl p => exact Or.inl h.1
  | inr q => exact Or.inr h.1
theorem hs_mset {μ : p_M} {s : Nat → Int32} {k b : Nat} (hs : ∀ j, j < 18 → mI μ 84 (18 + j) = s j) : ∀ j, j < 18 → mI (mset μ k b) 84 (18 + j) = s j := fun j hj => by rw [mI_msetO (by decide)]; exact hs j hj
theorem m_rB {f : Nat → Int32} {e k w : Nat} {lo hi : Int32} {s : Nat → Int32} {μ : p_M} (hT : MT μ f e k) (hw : w ≤ 9) (hlo : (0 : Int32) ≤ lo) (hs : ∀ j, j < 18 → mI μ 84 (18 + j) = s j) : ∃ v μ', ((F_X13_readBath μ).bind fun q16 => if q16.1 < 0 then (some ((0 : Int32), q16.2)) else ((F_X13_sets (nI w + q16.1) lo hi q16.2).bind fun q17 => if q17.1 = 0 then some ((0 : Int32), q17.2) else some ((1 : Int32), q17.2))) = some (v, μ') ∧ Fh μ μ' ∧ mO f e v μ' (rB f e w lo hi k s) := by
  have hwd := wd_le (f := f) hT.2.2.2.2
  rw [m_readBath hT]
  unfold rB
  rw [pW_B4]
  cases hb : bth f e k with
  | none =>
    have z : (-1 : Int32) < 0 := by decide
    refine ⟨0, mset μ (wd f e k) (bl f e k), ?_, Fh_mset _ _, rfl, mI_mset5⟩
    simp only [bd_some, oN, z, ↓reduceIte]
  | some x =>
    have hx := bth_le hb
    have z : ¬ nI x < 0 := nI_pos (by omega)
    have aw : nI w + nI x = nI (w + x) := nI_add w x
    obtain ⟨v, μ', b1, b2, b3⟩ := m_rN (w := w + x) (lo := lo) (hi := hi) (MT_mset (b := bl f e k) hT hwd.2) (by omega) hlo (hs_mset hs)
    refine ⟨v, μ', ?_, Fh_trans (Fh_mset _ _) b2, b3⟩
    simp only [bd_some, oN, z, aw, b1, ↓reduceIte]
    rcases mO01 b3 with rfl | rfl
    · simp only [↓reduceIte]
    · simp only [i_10, ↓reduceIte]
theorem m_rP {f : Nat → Int32} {e k : Nat} {s : Nat → Int32} {μ : p_M} (hT : MT μ f e k) (hs : ∀ j, j < 18 → mI μ 84 (18 + j) = s j) : ∃ v μ', F_X13_readPours μ = some (v, μ') ∧ Fh μ μ' ∧ mO f e v μ' (rP f e k s) := by
  have hwd := wd_le (f := f) hT.2.2.2.2
  have rb := m_readBath hT
  unfold rP
  rw [pW_B4]
  cases hb : bth f e k with
  | none =>
    rw [hb] at rb
    have z : ¬ (0 : Int32) ≤ -1 := by decide
    refine ⟨0, mset μ (wd f e k) (bl f e k), ?_, Fh_mset _ _, rfl, mI_mset5⟩
    simp only [F_X13_readPours, bd_some, rb, oN, z, ↓reduceIte]
  | some x =>
    rw [hb] at rb
    have hx := bth_le hb
    have z : (0 : Int32) ≤ nI x := nI_pos' (by omega)
    have hT1 : MT (mset μ (wd f e k) (bl f e k)) f e (wd f e k) := MT_mset hT hwd.2
    have F1 : Fh μ (mset μ (wd f e k) (bl f e k)) := Fh_mset _ _
    have hs1 := hs_mset (k := wd f e k) (b := bl f e k) hs
    generalize mset μ (wd f e k) (bl f e k) = μ1 at *
    dsimp only
    rw [bnd_r]
    dsimp only
    generalize wd f e k = k1 at *
    have wd1 := m_wd hT1
    have hwd1 := wd_le (f := f) hT1.2.2.2.2
    have t1 := m_isw' (V := p_E + 10 + 2) hT1 w_away (by decide) tR_away
    have t2 := m_isw' (V := p_E + 10 + 18) hT1 w_to (by decide) tR_to
    unfold pW
    cases hp : plc f (bl f e k1) (wd f e k1) ws_TA 0 with
    | none =>
      have h1 := plc_no _ _ hp w_away (by decide)
      have h2 := plc_no _ _ hp w_to (by decide)
      rw [bI_neg h1] at t1
      rw [bI_neg h2] at t2
      refine ⟨0, mset μ1 (wd f e k1) (bl f e k1), ?_, Fh_trans F1 (Fh_mset _ _), rfl, mI_mset5⟩
      simp only [F_X13_readPours, F_X13_readPours_c63, F_X13_readPours_c64, bd_some, p_ok, rb, oN, z, wd1, t1, t2, true_or, ↓reduceIte]
    | some y =>
      obtain ⟨w, h1, h2, -⟩ := plc_get _ _ _ hp
      have hy : y < 2 := plc_lt _ _ _ hp
      dsimp only
      rw [bnd_r]
      dsimp only
      have : y = 0 ∨ y = 1 := by omega
      rcases this with rfl | rfl
      · have hw : w_to = w := Option.some.inj h1
        subst hw
        have h3 : ¬ isw f (bl f e k1) (wd f e k1) w_away = true := fun h => absurd (isw_inj h h2) (by decide)
        rw [bI_neg h3] at t1
        rw [bI_pos h2] at t2
        have aw : 4 + nI x = nI (4 + x) := nI_add 4 x
        rw [if_pos rfl]
        obtain ⟨v, μ', b1, b2, b3⟩ := m_rN (w := 4 + x) (lo := 0) (hi := 4) (MT_mset (b := bl f e k1) hT1 hwd1.2) (by omega) (by decide) (hs_mset hs1)
        refine ⟨v, μ', ?_, Fh_trans F1 (Fh_trans (Fh_mset _ _) b2), b3⟩
        rcases mO01 b3 with rfl | rfl
        · simp only [F_X13_readPours, F_X13_readPours_c63, F_X13_readPours_c64, bd_some, p_ok, rb, oN, z, wd1, t1, t2, aw, b1, i_10, true_or, ↓reduceIte]
        · simp only [F_X13_readPours, F_X13_readPours_c63, F_X13_readPours_c64, bd_some, p_ok, rb, oN, z, wd1, t1, t2, aw, b1, i_10, or_true, ↓reduceIte]
      · have hw : w_away = w := Option.some.inj h1
        subst hw
        rw [bI_pos h2] at t1
        have aw : 22 + nI x = nI (18 + (4 + x)) := by rw [show (22 : Int32) = nI 22 from rfl, nI_add]; congr 1; omega
        have iw := ix_nI (show 18 + (4 + x) < 36 by omega) (by decide)
        have kw := nI_clamp (show 18 + (4 + x) < 2 ^ 31 by omega)
        have lw : 18 + (4 + x) < 36 := by omega
        rw [if_neg (by decide)]
        refine ⟨1, sI (mset μ1 (wd f e k1) (bl f e k1)) 84 (18 + (4 + x)) (-1), ?_, Fh_trans F1 (Fh_trans (Fh_mset _ _) Fh_set), rfl, mt_set (MT_mset hT1 hwd1.2), fun j hj => ?_⟩
        · simp only [F_X13_readPours, bd_some, p_ok, rb, oN, z, wd1, t1, i_10, aw, iw, kw, lw, aM, and_self, true_and, not_false_eq_true, ↓reduceIte]
        · simp only [mI_sI, mR_sI, mK_sI, mN_sI, mL_sI, mI_sG, mR_sG, mK_sG, mN_sG, mL_sG, mI_sJ, mR_sJ, mK_sJ, mN_sJ, mL_sJ, mI_sA, mR_sA, mK_sA, mN_sA, mL_sA, z_up, ↓reduceIte, reduceIte, Nat.reduceEqDiff, true_and, and_true]
          by_cases c : j = 4 + x
          · subst c; simp only [↓reduceIte]
          · rw [if_neg c, if_neg (show ¬ 18 + j = 18 + (4 + x) by omega), mI_msetO (by decide)]
            exact hs1 j hj
theorem bth_B3 {f : Nat → Int32} {e k : Nat} : plc f (bl f e k) (wd f e k) ws_B3 0 = match bth f e k with
  | none => none
  | some x => if x ≤ 2 then some x else none := by
  unfold bth ws_B3 ws_B4 plc plc plc plc plc
  by_cases c1 : isw f (bl f e k) (wd f e k) w_wash = true
  · rw [if_pos c1, if_pos c1]; rfl
  · rw [if_neg c1, if_neg c1]
    by_cases c2 : isw f (bl f e k) (wd f e k) w_stone = true
    · rw [if_pos c2, if_pos c2]; rfl
    · rw [if_neg c2, if_neg c2]
      by_cases c3 : isw f (bl f e k) (wd f e k) w_bleach = true
      · rw [if_pos c3, if_pos c3]; rfl
      · rw [if_neg c3, if_neg c3]
        by_cases c4 : isw f (bl f e k) (wd f e k) w_rinse = true
        · rw [if_pos c4]; rfl
        · rw [if_neg c4]
theorem m_rA {f : Nat → Int32} {e k : Nat} {s : Nat → Int32} {μ : p_M} (hT : MT μ f e k) (hs : ∀ j, j < 18 → mI μ 84 (18 + j) = s j) : ∃ v μ', F_X13_readAgain μ = some (v, μ') ∧ Fh μ μ' ∧ mO f e v μ' (rA f e k s) := by
  obtain ⟨v1, μ1, a1, a2, a3⟩ := m_rN (w := 13) (lo := 0) (hi := 5) hT (by decide) (by decide) hs
  have a1 : F_X13_sets 13 0 5 μ = some (v1, μ1) := a1
  unfold rN at a3
  unfold rA
  cases h1 : pN f e 0 5 k with
  | inl p =>
    rw [h1] at a3
    obtain ⟨rfl, a4⟩ := a3
    refine ⟨0, μ1, ?_, a2, rfl, a4⟩
    simp only [F_X13_readAgain, bd_some, a1, not_true_eq_false, ↓reduceIte]
  | inr r =>
    rw [h1] at a3
    obtain ⟨rfl, hT1, hs1⟩ := a3
    rw [bnd_r]
    have hT1 : MT μ1 f e r.2 := hT1
    have hs1 : ∀ j, j < 18 → mI μ1 84 (18 + j) = va_up s 13 r.1 j := hs1
    have wd1 := m_wd hT1
    have le1 := wd_le (f := f) hT1.2.2.2.2
    have t1 := m_isw' (V := p_E + 10 + 17) hT1 w_times (by decide) tR_times
    have pT : pW f e [w_times] r.2 = if isw f (bl f e r.2) (wd f e r.2) w_times = true then .inr (0, wd f e r.2) else .inl (bl f e r.2) := by
      unfold pW plc plc
      by_cases c : isw f (bl f e r.2) (wd f e r.2) w_times = true
      · rw [if_pos c, if_pos c]
      · rw [if_neg c, if_neg c]
    rw [pT]
    by_cases c1 : isw f (bl f e r.2) (wd f e r.2) w_times = true
    · rw [if_pos c1, bnd_r]
      rw [bI_pos c1] at t1
      dsimp only
      have hT2 : MT (mset μ1 (wd f e r.2) (bl f e r.2)) f e (wd f e r.2) := MT_mset hT1 le1.2
      have F2 : Fh μ (mset μ1 (wd f e r.2) (bl f e r.2)) := Fh_trans a2 (Fh_mset _ _)
      have hs2 := hs_mset (k := wd f e r.2) (b := bl f e r.2) hs1
      generalize mset μ1 (wd f e r.2) (bl f e r.2) = μ2 at *
      generalize wd f e r.2 = k2 at *
      have wd2 := m_wd hT2
      have le2 := wd_le (f := f) hT2.2.2.2.2
      have t2 := m_isw' (V := p_E + 10 + 23) hT2 w_with (by decide) tR_with
      have pT2 : pW f e [w_with] k2 = if isw f (bl f e k2) (wd f e k2) w_with = true then .inr (0, wd f e k2) else .inl (bl f e k2) := by
        unfold pW plc plc
        by_cases c : isw f (bl f e k2) (wd f e k2) w_with = true
        · rw [if_pos c, if_pos c]
        · rw [if_neg c, if_neg c]
      rw [pT2]
      by_cases c2 : isw f (bl f e k2) (wd f e k2) w_with = true
      · rw [if_pos c2, bnd_r]
        rw [bI_pos c2] at t2
        dsimp only
        have hT3 : MT (mset μ2 (wd f e k2) (bl f e k2)) f e (wd f e k2) := MT_mset hT2 le2.2
        have F3 : Fh μ (mset μ2 (wd f e k2) (bl f e k2)) := Fh_trans F2 (Fh_mset _ _)
        have hs3 := hs_mset (k := wd f e k2) (b := bl f e k2) hs2
        generalize mset μ2 (wd f e k2) (bl f e k2) = μ3 at *
        generalize wd f e k2 = k3 at *
        have rb := m_readBath hT3
        have le3 := wd_le (f := f) hT3.2.2.2.2
        unfold pW
        rw [bth_B3]
        cases hb : bth f e k3 with
        | none =>
          rw [hb] at rb
          have z : ¬ (0 ≤ (-1 : Int32) ∧ (-1 : Int32) ≤ 2) := by decide
          refine ⟨0, mset μ3 (wd f e k3) (bl f e k3), ?_, Fh_trans F3 (Fh_mset _ _), rfl, mI_mset5⟩
          simp only [F_X13_readAgain, bd_some, a1, i_10, wd1, t1, wd2, t2, rb, oN, m_in, bI_neg z, not_true_eq_false, not_false_eq_true, ↓reduceIte]
        | some x =>
          rw [hb] at rb
          have hx := bth_le hb
          dsimp only
          by_cases c3 : x ≤ 2
          · rw [if_pos c3]
            have z : (0 ≤ nI x ∧ nI x ≤ 2) := ⟨nI_pos' (by omega), (show nI x ≤ nI 2 from nI_le c3 (by decide))⟩
            have x32 : ¬ (32 : Int32) < 0 ∧ Int32.toNatClampNeg 32 < 36 := by decide
            have k32 : Int32.toNatClampNeg 32 = 32 := by decide
            have l32 : 32 < 36 := by decide
            dsimp only
            rw [bnd_r]
            dsimp only
            have hs4 : ∀ j, j < 18 → mI (sI (mset μ3 (wd f e k3) (bl f e k3)) 84 32 (nI x)) 84 (18 + j) = va_up (va_up s 13 r.1) 14 (nI x) j := fun j hj => by
              simp only [mI_sI, mR_sI, mK_sI, mN_sI, mL_sI, mI_sG, mR_sG, mK_sG, mN_sG, mL_sG, mI_sJ, mR_sJ, mK_sJ, mN_sJ, mL_sJ, mI_sA, mR_sA, mK_sA, mN_sA, mL_sA, z_up, ↓reduceIte, reduceIte, Nat.reduceEqDiff, true_and, and_true]
              by_cases c : j = 14
              · subst c; simp only [↓reduceIte]
              · rw [if_neg c, if_neg (show ¬ 18 + j = 32 by omega), mI_msetO (by decide)]
                have := hs3 j hj
                simp only [z_up] at this
                exact this
            obtain ⟨v5, μ5, b1, b2, b3⟩ := m_rN (w := 15) (lo := 1) (hi := 20) (mt_set (w := 32) (v := nI x) (MT_mset (b := bl f e k3) hT3 le3.2)) (by decide) (by decide) hs4
            have b1 : F_X13_sets 15 1 20 _ = some (v5, μ5) := b1
            refine ⟨v5, μ5, ?_, Fh_trans F3 (Fh_trans (Fh_trans (Fh_mset _ _) (Fh_set (w := 14))) b2), b3⟩
            rcases mO01 b3 with rfl | rfl
            · simp only [F_X13_readAgain, bd_some, p_ok, a1, i_10, wd1, t1, wd2, t2, rb, oN, m_in, bI_pos z, x32, k32, l32, aM, b1, true_or, and_self, true_and, not_true_eq_false, not_false_eq_true, ↓reduceIte]
            · simp only [F_X13_readAgain, bd_some, p_ok, a1, i_10, wd1, t1, wd2, t2, rb, oN, m_in, bI_pos z, x32, k32, l32, aM, b1, or_true, and_self, true_and, not_true_eq_false, not_false_eq_true, ↓reduceIte]
          · rw [if_neg c3]
            have z : ¬ (0 ≤ nI x ∧ nI x ≤ 2) := fun h => (show ¬ nI x ≤ nI 2 from nI_ge (by omega) (by omega)) h.2
            refine ⟨0, mset μ3 (wd f e k3) (bl f e k3), ?_, Fh_trans F3 (Fh_mset _ _), rfl, mI_mset5⟩
            simp only [F_X13_readAgain, bd_some, a1, i_10, wd1, t1, wd2, t2, rb, oN, m_in, bI_neg z, not_true_eq_false, not_false_eq_true, ↓reduceIte]
      · rw [if_neg c2]
        rw [bI_neg c2] at t2
        refine ⟨0, mset μ2 (wd f e k2) (bl f e k2), ?_, Fh_trans F2 (Fh_mset _ _), rfl, mI_mset5⟩
        simp only [F_X13_readAgain, bd_some, a1, i_10, wd1, t1, wd2, t2, not_true_eq_false, not_false_eq_true, ↓reduceIte]
    · rw [if_neg c1]
      rw [bI_neg c1] at t1
      refine ⟨0, mset μ1 (wd f e r.2) (bl f e r.2), ?_, Fh_trans a2 (Fh_mset _ _), rfl, mI_mset5⟩
      simp only [F_X13_readAgain, bd_some, a1, i_10, wd1, t1, not_true_eq_false, not_false_eq_true, ↓reduceIte]
