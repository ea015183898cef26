/-! feed -/
def byt (v : Int32) (i : Nat) : Int32 := (v >>> (nI (24 - 8 * i) &&& 31)).toInt8.toInt32
theorem bv_sh (x : BitVec 32) (n : Nat) (h : n ≤ 24) : (x >>> n).signExtend 8 = (x.sshiftRight n).signExtend 8 := by
  rw [BitVec.signExtend_eq_setWidth_of_le _ (by decide), BitVec.signExtend_eq_setWidth_of_le _ (by decide)]
  apply BitVec.eq_of_getLsbD_eq
  intro i hi
  rw [BitVec.getLsbD_setWidth, BitVec.getLsbD_setWidth, BitVec.getLsbD_ushiftRight, BitVec.getLsbD_sshiftRight]
  have h1 : ¬ 32 ≤ i := by omega
  have h2 : n + i < 32 := by omega
  simp only [h1, h2, decide_false, Bool.not_false, Bool.true_and, ↓reduceIte]
theorem byt_w (v : Int32) (w : Int32) (i n : Nat) (hw : nI (24 - 8 * i) = w) (hn : n ≤ 24) (h1 : ((w &&& 31).toBitVec.smod 32).toNat = n) (h2 : ((w.toUInt32 &&& Int32.toUInt32 31).toBitVec % 32).toNat = n) : ((v.toUInt32 >>> (w.toUInt32 &&& Int32.toUInt32 31)).toInt32).toInt8.toInt32.toInt8.toInt32 = byt v i := by
  rw [Int8.toInt8_toInt32]
  unfold byt
  rw [hw]
  congr 1
  apply Int8.toBitVec_inj.mp
  show (v.toBitVec >>> ((w.toUInt32 &&& Int32.toUInt32 31).toBitVec % 32).toNat).signExtend 8 = (v.toBitVec.sshiftRight ((w &&& 31).toBitVec.smod 32).toNat).signExtend 8
  rw [h1, h2]
  exact bv_sh _ n hn
theorem byt_0 (v : Int32) : ((v.toUInt32 >>> ((24 : Int32).toUInt32 &&& Int32.toUInt32 31)).toInt32).toInt8.toInt32.toInt8.toInt32 = byt v 0 := byt_w v 24 0 24 rfl (by decide) (by decide) (by decide)
theorem byt_1 (v : Int32) : ((v.toUInt32 >>> ((16 : Int32).toUInt32 &&& Int32.toUInt32 31)).toInt32).toInt8.toInt32.toInt8.toInt32 = byt v 1 := byt_w v 16 1 16 rfl (by decide) (by decide) (by decide)
theorem byt_2 (v : Int32) : ((v.toUInt32 >>> ((8 : Int32).toUInt32 &&& Int32.toUInt32 31)).toInt32).toInt8.toInt32.toInt8.toInt32 = byt v 2 := byt_w v 8 2 8 rfl (by decide) (by decide) (by decide)
theorem byt_3 (v : Int32) : ((v.toUInt32 >>> ((0 : Int32).toUInt32 &&& Int32.toUInt32 31)).toInt32).toInt8.toInt32.toInt8.toInt32 = byt v 3 := byt_w v 0 3 0 rfl (by decide) (by decide) (by decide)
theorem c_append {μ : p_M} (hS : Sh μ) {n : Nat} (hn : n + 4 ≤ 400) (e : mI μ 1 1 = nI n) (v : Int32) : ∃ μ', F_X10_append 1 v μ = some (0, μ') ∧ mI μ' 1 1 = nI (n + 4) ∧ (∀ j, mI μ' 2 j = if n ≤ j ∧ j < n + 4 then byt v (j - n) else mI μ 2 j) ∧ (∀ j, j ≠ 1 → mI μ' 1 j = mI μ 1 j) ∧ Fq [1, 2] [] μ μ' := by
  have l0 : n < 400 := by omega
  have l1 : n + 1 < 400 := by omega
  have l2 : n + 1 + 1 < 400 := by omega
  have l3 : n + 1 + 1 + 1 < 400 := by omega
  have i0 := ix_nI l0 (by decide)
  have i1 := ix_nI l1 (by decide)
  have i2 := ix_nI l2 (by decide)
  have i3 := ix_nI l3 (by decide)
  have k0 := nI_clamp (show n < 2 ^ 31 by omega)
  have k1 := nI_clamp (show n + 1 < 2 ^ 31 by omega)
  have k2 := nI_clamp (show n + 1 + 1 < 2 ^ 31 by omega)
  have k3 := nI_clamp (show n + 1 + 1 + 1 < 2 ^ 31 by omega)
  have g0 : ¬ 400 ≤ nI n := nI_ge l0 (by decide)
  have g1 : ¬ 400 ≤ nI (n + 1) := nI_ge l1 (by decide)
  have g2 : ¬ 400 ≤ nI (n + 1 + 1) := nI_ge l2 (by decide)
  have g3 : ¬ 400 ≤ nI (n + 1 + 1 + 1) := nI_ge l3 (by decide)
  have b0 : ¬ (24 : Int32) < 0 := by decide
  have b1 : ¬ (16 : Int32) < 0 := by decide
  have b2 : ¬ (8 : Int32) < 0 := by decide
  have b3 : ¬ (0 : Int32) < 0 := by decide
  have b4 : (-8 : Int32) < 0 := by decide
  have d0 : (24 : Int32) + -8 = 16 := by decide
  have d1 : (16 : Int32) + -8 = 8 := by decide
  have d2 : (8 : Int32) + -8 = 0 := by decide
  have d3 : (0 : Int32) + -8 = -8 := by decide
  have a1 : ∀ x : Nat, nI x + 1 = nI (x + 1) := fun x => nI_add x 1
  have h1 : 1 ∈ [1, 2] ∧ 1 ≠ 65 := by decide
  have h2 : 2 ∈ [1, 2] ∧ 2 ≠ 65 := by decide
  refine ⟨sI (sI (sI (sI (sI (sI (sI (sI μ 2 n (byt v 0)) 1 1 (nI (n + 1))) 2 (n + 1) (byt v 1)) 1 1 (nI (n + 1 + 1))) 2 (n + 1 + 1) (byt v 2)) 1 1 (nI (n + 1 + 1 + 1))) 2 (n + 1 + 1 + 1) (byt v 3)) 1 1 (nI (n + 1 + 1 + 1 + 1)), ?_, ?_, ?_, ?_, Fq_sI (Fq_sI (Fq_sI (Fq_sI (Fq_sI (Fq_sI (Fq_sI (Fq_sI (Fq_refl μ) h2) h1) h2) h1) h2) h1) h2) h1⟩
  · unfold F_X10_append
    rw [show p_fu = 99994 + 1 + 1 + 1 + 1 + 1 + 1 from rfl]
    simp only [bd_some, p_let_eq, p_ok, mI_sI, mR_sI, mK_sI, mN_sI, mL_sI, mI_sG, mR_sG, mK_sG, mN_sG, mL_sG, mI_sJ, mR_sJ, mK_sJ, mN_sJ, mL_sJ, z_up, ↓reduceIte, and_self, true_and, and_true, false_and, and_false, not_true_eq_false, not_false_eq_true, Nat.reduceEqDiff, i_10, i_20, i_30, w_in, w_need1, w_need0, m_in, m_thr0, m_thr1, tM, aM, nI_1, nI_pred, reduceIte, wp_some, eq_self, bI_T, bI_F, F_X10_append_c3, F_X10_append_c46, s_o1 hS, s_r1_0 hS, s_a2 hS, s_l2 hS, s_o2 hS, e, l0, l1, l2, l3, i0, i1, i2, i3, k0, k1, k2, k3, g0, g1, g2, g3, b0, b1, b2, b3, b4, d0, d1, d2, d3, a1, byt_0, byt_1, byt_2, byt_3]
  · simp only [mI_sI, mR_sI, mK_sI, mN_sI, mL_sI, mI_sG, mR_sG, mK_sG, mN_sG, mL_sG, mI_sJ, mR_sJ, mK_sJ, mN_sJ, mL_sJ, mI_sA, mR_sA, mK_sA, mN_sA, mL_sA, z_up, ↓reduceIte, reduceIte, Nat.reduceEqDiff, true_and, and_true]
  · intro j
    simp only [mI_sI, mR_sI, mK_sI, mN_sI, mL_sI, mI_sG, mR_sG, mK_sG, mN_sG, mL_sG, mI_sJ, mR_sJ, mK_sJ, mN_sJ, mL_sJ, mI_sA, mR_sA, mK_sA, mN_sA, mL_sA, z_up, ↓reduceIte, reduceIte, Nat.reduceEqDiff, true_and, and_true]
    by_cases c : n ≤ j ∧ j < n + 4
    · rw [if_pos c]
      have : j = n ∨ j = n + 1 ∨ j = n + 1 + 1 ∨ j = n + 1 + 1 + 1 := by omega
      rcases this with rfl | rfl | rfl | rfl
      · rw [if_neg (by omega), if_neg (by omega), if_neg (by omega), if_pos rfl, Nat.sub_self]
      · rw [if_neg (by omega), if_neg (by omega), if_pos rfl, show n + 1 - n = 1 by omega]
      · rw [if_neg (by omega), if_pos rfl, show n + 1 + 1 - n = 2 by omega]
      · rw [if_pos rfl, show n + 1 + 1 + 1 - n = 3 by omega]
    · rw [if_neg c, if_neg (by omega), if_neg (by omega), if_neg (by omega), if_neg (by omega)]
  · intro j hj
    simp only [mI_sI, mR_sI, mK_sI, mN_sI, mL_sI, mI_sG, mR_sG, mK_sG, mN_sG, mL_sG, mI_sJ, mR_sJ, mK_sJ, mN_sJ, mL_sJ, mI_sA, mR_sA, mK_sA, mN_sA, mL_sA, z_up, ↓reduceIte, reduceIte, Nat.reduceEqDiff, true_and, and_true, hj]
theorem m_feed {n : Nat} (hn : n + 20 ≤ 400) : ∀ (r k m : Nat) (μ : p_M), k + r = 20 → r < m → mI μ 65 2 = nI n → ∃ μ', F_X13_feed_c60 m (nI k) μ = some (nI (n + 20), μ') ∧ mI μ' 65 2 = nI (n + 20) ∧ (∀ j, mI μ' 66 j = if n + k ≤ j ∧ j < n + 20 then byt (mI μ 67 ((j - n) / 4)) ((j - n) % 4) else mI μ 66 j) ∧ Fq [66] [2] μ μ' := by
  intro r
  induction r with
  | zero =>
    intro k m μ hk hm e
    obtain ⟨m, rfl⟩ : ∃ k, m = k + 1 := ⟨m - 1, by omega⟩
    have hk : k = 20 := by omega
    subst hk
    have c1 : (20 : Int32) ≤ nI 20 := by decide
    have a1 : nI n + 20 = nI (n + 20) := nI_add n 20
    refine ⟨sI μ 65 2 (nI (n + 20)), ?_, ?_, fun j => ?_, Fq_s65 (Fq_refl μ) (by decide)⟩
    · simp only [bd_some, p_let_eq, p_ok, mI_sI, mR_sI, mK_sI, mN_sI, mL_sI, mI_sG, mR_sG, mK_sG, mN_sG, mL_sG, mI_sJ, mR_sJ, mK_sJ, mN_sJ, mL_sJ, z_up, ↓reduceIte, and_self, true_and, and_true, false_and, and_false, not_true_eq_false, not_false_eq_true, Nat.reduceEqDiff, i_10, i_20, i_30, w_in, w_need1, w_need0, m_in, m_thr0, m_thr1, tM, aM, nI_1, nI_pred, reduceIte, wp_some, eq_self, bI_T, bI_F, F_X13_feed_c60, c1, e, a1]
    · simp only [mI_sI, mR_sI, mK_sI, mN_sI, mL_sI, mI_sG, mR_sG, mK_sG, mN_sG, mL_sG, mI_sJ, mR_sJ, mK_sJ, mN_sJ, mL_sJ, mI_sA, mR_sA, mK_sA, mN_sA, mL_sA, z_up, ↓reduceIte, reduceIte, Nat.reduceEqDiff, true_and, and_true]
    · rw [if_neg (by omega)]
      simp only [mI_sI, mR_sI, mK_sI, mN_sI, mL_sI, mI_sG, mR_sG, mK_sG, mN_sG, mL_sG, mI_sJ, mR_sJ, mK_sJ, mN_sJ, mL_sJ, mI_sA, mR_sA, mK_sA, mN_sA, mL_sA, z_up, ↓reduceIte, reduceIte, Nat.reduceEqDiff, true_and, and_true]
  | succ r ih =>
    intro k m μ hk hm e
    obtain ⟨m, rfl⟩ : ∃ k, m = k + 1 := ⟨m - 1, by omega⟩
    have c1 : ¬ (20 : Int32) ≤ nI k := (show ¬ nI 20 ≤ nI k from nI_ge (by omega) (by decide))
    have z4 : ¬ (4 : Int32) = 0 := by decide
    have d4 : nI k / 4 = nI (k / 4) := pk_div (d := 4) (by omega) (by decide) (by decide)
    have m4 : nI (k / 4) * 4 = nI (4 * (k / 4)) := by rw [show (4 : Int32) = nI 4 from rfl, pk_mul, Nat.mul_comm]
    have s4 : nI k - nI (4 * (k / 4)) = nI (k % 4) := by rw [pk_sub (by omega)]; congr 1; omega
    have m8 : 8 * nI (k % 4) = nI (8 * (k % 4)) := pk_mul 8 _
    have s24 : 24 - nI (8 * (k % 4)) = nI (24 - 8 * (k % 4)) := by rw [show (24 : Int32) = nI 24 from rfl, pk_sub (by omega)]
    have i4 := ix_nI (show k / 4 < 5 by omega) (by decide)
    have k4 := nI_clamp (show k / 4 < 2 ^ 31 by omega)
    have l4 : k / 4 < 5 := by omega
    have ak : nI n + nI k = nI (n + k) := nI_add n k
    have in_ := ix_nI (show n + k < 400 by omega) (by decide)
    have kn := nI_clamp (show n + k < 2 ^ 31 by omega)
    have ln : n + k < 400 := by omega
    obtain ⟨μ', p1, p2, p3, p4⟩ := ih (k + 1) m (sI μ 66 (n + k) (byt (mI μ 67 (k / 4)) (k % 4))) (by omega) (by omega) (by simp only [mI_sI, mR_sI, mK_sI, mN_sI, mL_sI, mI_sG, mR_sG, mK_sG, mN_sG, mL_sG, mI_sJ, mR_sJ, mK_sJ, mN_sJ, mL_sJ, mI_sA, mR_sA, mK_sA, mN_sA, mL_sA, z_up, ↓reduceIte, reduceIte, Nat.reduceEqDiff, true_and, and_true]; exact e)
    refine ⟨μ', ?_, p2, fun j => ?_, Fq_trans (Fq_mono (Fq_sI (cs := [66]) (ss := []) (Fq_refl μ) (by decide)) (by decide) (by decide)) p4⟩
    · simp only [bd_some, p_let_eq, p_ok, mI_sI, mR_sI, mK_sI, mN_sI, mL_sI, mI_sG, mR_sG, mK_sG, mN_sG, mL_sG, mI_sJ, mR_sJ, mK_sJ, mN_sJ, mL_sJ, z_up, ↓reduceIte, and_self, true_and, and_true, false_and, and_false, not_true_eq_false, not_false_eq_true, Nat.reduceEqDiff, i_10, i_20, i_30, w_in, w_need1, w_need0, m_in, m_thr0, m_thr1, tM, aM, nI_1, nI_pred, reduceIte, wp_some, eq_self, bI_T, bI_F, F_X13_feed_c60, c1, e, z4, d4, m4, s4, m8, s24, i4, k4, l4, ak, in_, kn, ln, Int8.toInt8_toInt32]
      exact p1
    · rw [p3 j]
      simp only [mI_sI, mR_sI, mK_sI, mN_sI, mL_sI, mI_sG, mR_sG, mK_sG, mN_sG, mL_sG, mI_sJ, mR_sJ, mK_sJ, mN_sJ, mL_sJ, mI_sA, mR_sA, mK_sA, mN_sA, mL_sA, z_up, ↓reduceIte, reduceIte, Nat.reduceEqDiff, true_and, and_true]
      by_cases c : j = n + k
      · subst c
        rw [if_neg (by omega), if_pos rfl, if_pos (by omega), show n + k - n = k by omega]
      · by_cases c2 : n + k ≤ j ∧ j < n + 20
        · rw [if_pos (by omega), if_pos c2]
        · rw [if_neg (by omega), if_neg c2, if_neg c]
theorem A_feed {μ : p_M} (hS : Sh μ) (hR : RText μ) (v1 v2 v3 v4 v5 : Int32) : wp (F_X12_feed 0 v1 v2 v3 v4 v5 μ) fun a μ1 => wp (F_X13_feed v1 v2 v3 v4 v5 μ1) fun b μ2 => a = b ∧ Cn μ μ2 ∧ RText μ2 ∧ Fr [1, 2, 66, 67] [0, 2] μ μ2 := by
  have hR0 := hR
  obtain ⟨r1, r2, n, hn, e1, e2⟩ := hR
  have a20 : nI n + 20 = nI (n + 20) := nI_add n 20
  by_cases c : n + 20 ≤ 400
  · have g1 : ¬ 400 < nI (n + 20) := (show ¬ nI 400 < nI (n + 20) from nI_nlt c (by decide))
    have g2 : nI (n + 20) ≤ 400 := (show nI (n + 20) ≤ nI 400 from nI_le c (by decide))
    obtain ⟨μ1, w1, x1, y1, z1, f1⟩ := c_append hS (show n + 4 ≤ 400 by omega) e1 v1
    have hS1 := Sh_q f1 hS
    obtain ⟨μ2, w2, x2, y2, z2, f2⟩ := c_append hS1 (show n + 4 + 4 ≤ 400 by omega) x1 v2
    have hS2 := Sh_q f2 hS1
    obtain ⟨μ3, w3, x3, y3, z3, f3⟩ := c_append hS2 (show n + 4 + 4 + 4 ≤ 400 by omega) x2 v3
    have hS3 := Sh_q f3 hS2
    obtain ⟨μ4, w4, x4, y4, z4, f4⟩ := c_append hS3 (show n + 4 + 4 + 4 + 4 ≤ 400 by omega) x3 v4
    have hS4 := Sh_q f4 hS3
    obtain ⟨μ5, w5, x5, y5, z5, f5⟩ := c_append hS4 (show n + 4 + 4 + 4 + 4 + 4 ≤ 400 by omega) x4 v5
    have hS5 := Sh_q f5 hS4
    have fc : Fq [1, 2] [] μ μ5 := Fq_trans (Fq_trans (Fq_trans (Fq_trans f1 f2) f3) f4) f5
    have s2 : mI μ5 65 2 = nI n := by rw [Fq_sc fc 2 rfl]; exact e2
    obtain ⟨μ6, p1, p2, p3, p4⟩ := m_feed c 20 0 p_fu (sI (sI (sI (sI (sI (sI μ5 65 0 0) 67 0 v1) 67 1 v2) 67 2 v3) 67 3 v4) 67 4 v5) (by decide) (by decide) (by simp only [mI_sI, mR_sI, mK_sI, mN_sI, mL_sI, mI_sG, mR_sG, mK_sG, mN_sG, mL_sG, mI_sJ, mR_sJ, mK_sJ, mN_sJ, mL_sJ, mI_sA, mR_sA, mK_sA, mN_sA, mL_sA, z_up, ↓reduceIte, reduceIte, Nat.reduceEqDiff, true_and, and_true]; exact s2)
    have p1 : F_X13_feed_c60 p_fu 0 _ = _ := p1
    have t0 : ¬ (0 : Int32) < 0 ∧ Int32.toNatClampNeg 0 < 5 := by decide
    have t1 : ¬ (1 : Int32) < 0 ∧ Int32.toNatClampNeg 1 < 5 := by decide
    have t2 : ¬ (2 : Int32) < 0 ∧ Int32.toNatClampNeg 2 < 5 := by decide
    have t3 : ¬ (3 : Int32) < 0 ∧ Int32.toNatClampNeg 3 < 5 := by decide
    have t4 : ¬ (4 : Int32) < 0 ∧ Int32.toNatClampNeg 4 < 5 := by decide
    have q0 : Int32.toNatClampNeg 0 = 0 := rfl
    have q1 : Int32.toNatClampNeg 1 = 1 := rfl
    have q2 : Int32.toNatClampNeg 2 = 2 := rfl
    have q3 : Int32.toNatClampNeg 3 = 3 := rfl
    have q4 : Int32.toNatClampNeg 4 = 4 := rfl
    simp only [q0, q1, q2, q3, q4] at t0 t1 t2 t3 t4
    simp only [bd_some, p_let_eq, p_ok, mI_sI, mR_sI, mK_sI, mN_sI, mL_sI, mI_sG, mR_sG, mK_sG, mN_sG, mL_sG, mI_sJ, mR_sJ, mK_sJ, mN_sJ, mL_sJ, z_up, ↓reduceIte, and_self, true_and, and_true, false_and, and_false, not_true_eq_false, not_false_eq_true, Nat.reduceEqDiff, i_10, i_20, i_30, w_in, w_need1, w_need0, m_in, m_thr0, m_thr1, tM, aM, nI_1, nI_pred, reduceIte, wp_some, eq_self, bI_T, bI_F, F_X12_feed, F_X10_hasRoom, F_X10_hasRoom_c18, F_X13_feed, s_o0 hS, s_r0_0 hS, s_r0_1 hS, s_r0_10 hS, s_r0_11 hS, s_r0_12 hS, s_r0_14 hS, s_r0_16 hS, s_r0_19 hS, s_r0_7 hS, s_r0_8 hS, s_r0_9 hS, s_o1 hS, s_r1_0 hS, s_o0 hS1, s_r0_0 hS1, s_r0_1 hS1, s_r0_10 hS1, s_r0_11 hS1, s_r0_12 hS1, s_r0_14 hS1, s_r0_16 hS1, s_r0_19 hS1, s_r0_7 hS1, s_r0_8 hS1, s_r0_9 hS1, s_o1 hS1, s_r1_0 hS1, s_o0 hS2, s_r0_0 hS2, s_r0_1 hS2, s_r0_10 hS2, s_r0_11 hS2, s_r0_12 hS2, s_r0_14 hS2, s_r0_16 hS2, s_r0_19 hS2, s_r0_7 hS2, s_r0_8 hS2, s_r0_9 hS2, s_o1 hS2, s_r1_0 hS2, s_o0 hS3, s_r0_0 hS3, s_r0_1 hS3, s_r0_10 hS3, s_r0_11 hS3, s_r0_12 hS3, s_r0_14 hS3, s_r0_16 hS3, s_r0_19 hS3, s_r0_7 hS3, s_r0_8 hS3, s_r0_9 hS3, s_o1 hS3, s_r1_0 hS3, s_o0 hS4, s_r0_0 hS4, s_r0_1 hS4, s_r0_10 hS4, s_r0_11 hS4, s_r0_12 hS4, s_r0_14 hS4, s_r0_16 hS4, s_r0_19 hS4, s_r0_7 hS4, s_r0_8 hS4, s_r0_9 hS4, s_o1 hS4, s_r1_0 hS4, s_o0 hS5, s_r0_0 hS5, s_r0_1 hS5, s_r0_10 hS5, s_r0_11 hS5, s_r0_12 hS5, s_r0_14 hS5, s_r0_16 hS5, s_r0_19 hS5, s_r0_7 hS5, s_r0_8 hS5, s_r0_9 hS5, s_o1 hS5, s_r1_0 hS5, e1, e2, a20, g1, g2, or_true, w1, w2, w3, w4, w5, x5, s2, q0, q1, q2, q3, q4, t0, t1, t2, t3, t4, p1]
    refine ⟨Cn_eq ?_ ?_, ⟨?_, ?_, n + 20, c, ?_, p2⟩, ?_⟩
    · rw [Fq_C p4]; exact (show mC μ5 = mC μ from Fq_C fc)
    · rw [Fq_S p4]; exact (show mS μ5 = mS μ from Fq_S fc)
    · funext j
      rw [p3 j, Fq_row p4 2 (by decide)]
      simp only [mI_sI, mR_sI, mK_sI, mN_sI, mL_sI, mI_sG, mR_sG, mK_sG, mN_sG, mL_sG, mI_sJ, mR_sJ, mK_sJ, mN_sJ, mL_sJ, mI_sA, mR_sA, mK_sA, mN_sA, mL_sA, z_up, ↓reduceIte, reduceIte, Nat.reduceEqDiff, true_and, and_true]
      rw [y5, y4, y3, y2, y1, Fq_row fc 66 (by decide), r1]
      by_cases d : n ≤ j ∧ j < n + 20
      · rw [if_pos (show n + 0 ≤ j ∧ j < n + 20 by omega)]
        have : (j - n) / 4 = 0 ∨ (j - n) / 4 = 1 ∨ (j - n) / 4 = 2 ∨ (j - n) / 4 = 3 ∨ (j - n) / 4 = 4 := by omega
        rcases this with u | u | u | u | u
        · rw [if_neg (by omega), if_neg (by omega), if_neg (by omega), if_neg (by omega), if_pos (by omega), show (j - n) % 4 = j - n by omega]
          simp only [u, ↓reduceIte, Nat.reduceEqDiff]
        · rw [if_neg (by omega), if_neg (by omega), if_neg (by omega), if_pos (by omega), show (j - n) % 4 = j - (n + 4) by omega]
          simp only [u, ↓reduceIte, Nat.reduceEqDiff]
        · rw [if_neg (by omega), if_neg (by omega), if_pos (by omega), show (j - n) % 4 = j - (n + 4 + 4) by omega]
          simp only [u, ↓reduceIte, Nat.reduceEqDiff]
        · rw [if_neg (by omega), if_pos (by omega), show (j - n) % 4 = j - (n + 4 + 4 + 4) by omega]
          simp only [u, ↓reduceIte, Nat.reduceEqDiff]
        · rw [if_pos (by omega), show (j - n) % 4 = j - (n + 4 + 4 + 4 + 4) by omega]
          simp only [u, ↓reduceIte, Nat.reduceEqDiff]
      · rw [if_neg (by omega), if_neg (by omega), if_neg (by omega), if_neg (by omega), if_neg (by omega), if_neg (by omega)]
    · rw [Fq_row p4 1 (by decide), Fq_sc p4 6 rfl]
      simp only [mI_sI, mR_sI, mK_sI, mN_sI, mL_sI, mI_sG, mR_sG, mK_sG, mN_sG, mL_sG, mI_sJ, mR_sJ, mK_sJ, mN_sJ, mL_sJ, mI_sA, mR_sA, mK_sA, mN_sA, mL_sA, z_up, ↓reduceIte, reduceIte, Nat.reduceEqDiff, true_and, and_true]
      rw [z5 3 (by decide), z4 3 (by decide), z3 3 (by decide), z2 3 (by decide), z1 3 (by decide), Fq_sc fc 6 rfl]
      exact r2
    · rw [Fq_row p4 1 (by decide)]
      simp only [mI_sI, mR_sI, mK_sI, mN_sI, mL_sI, mI_sG, mR_sG, mK_sG, mN_sG, mL_sG, mI_sJ, mR_sJ, mK_sJ, mN_sJ, mL_sJ, mI_sA, mR_sA, mK_sA, mN_sA, mL_sA, z_up, ↓reduceIte, reduceIte, Nat.reduceEqDiff, true_and, and_true]
      exact x5
    · refine Fr_trans (μ1 := sI (sI (sI (sI (sI (sI μ5 65 0 0) 67 0 v1) 67 1 v2) 67 2 v3) 67 3 v4) 67 4 v5) ?_ (Fr_mono (Fq_fr p4) (by decide) (by decide))
      refine Fr_sI (Fr_sI (Fr_sI (Fr_sI (Fr_sI (Fr_s65 (Fr_mono (Fq_fr fc) (by decide) (by decide)) (by decide)) (by decide)) (by decide)) (by decide)) (by decide)) (by decide)
  · have g1 : 400 < nI (n + 20) := (show nI 400 < nI (n + 20) from nI_lt (by omega) (by omega))
    have g2 : ¬ nI (n + 20) ≤ 400 := (show ¬ nI (n + 20) ≤ nI 400 from nI_ge (by omega) (by omega))
    have f : Fr [] [0] μ (sI μ 65 0 0) := by repeat (first | exact Fr_refl _ | refine Fr_s65 ?_ (by decide) | refine Fr_sI ?_ (by decide) | refine Fr_sA ?_ (by decide) | refine Fr_sJ ?_ | refine Fr_sG ?_)
    simp only [bd_some, p_let_eq, p_ok, mI_sI, mR_sI, mK_sI, mN_sI, mL_sI, mI_sG, mR_sG, mK_sG, mN_sG, mL_sG, mI_sJ, mR_sJ, mK_sJ, mN_sJ, mL_sJ, z_up, ↓reduceIte, and_self, true_and, and_true, false_and, and_false, not_true_eq_false, not_false_eq_true, Nat.reduceEqDiff, i_10, i_20, i_30, w_in, w_need1, w_need0, m_in, m_thr0, m_thr1, tM, aM, nI_1, nI_pred, reduceIte, wp_some, eq_self, bI_T, bI_F, F_X12_feed, F_X10_hasRoom, F_X10_hasRoom_c18, F_X13_feed, s_o0 hS, s_r0_0 hS, s_r0_1 hS, s_r0_10 hS, s_r0_11 hS, s_r0_12 hS, s_r0_14 hS, s_r0_16 hS, s_r0_19 hS, s_r0_7 hS, s_r0_8 hS, s_r0_9 hS, s_o1 hS, s_r1_0 hS, e1, e2, a20, g1, g2, true_or]
    exact ⟨Cn_eq rfl rfl, RText_fr f (by decide) hR0, Fr_mono f (by decide) (by decide)⟩
