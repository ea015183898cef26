/-! lot -/
theorem Fl_nw {μ : p_M} {v1 v2 v3 v4 : Int32} {nb P l : Nat} (hS : Sh μ) (hl : mN μ = l) (hE : l + 8 < p_E) : Fl [] [] μ (nwL μ v1 v2 v3 v4 nb P) := by
  have h113 : 113 ≤ mN μ := hS.2.1
  have q := fun (a : Nat) (ha : a < 113) => nwL_old (μ := μ) (v1 := v1) (v2 := v2) (v3 := v3) (v4 := v4) (nb := nb) (P := P) hl (show a < l by omega)
  refine ⟨fun a ha _ => (q a ha).2.1, fun a ha => ⟨(q a ha).2.2.1, (q a ha).2.2.2⟩, by rw [nwL_N hl]; omega, by rw [nwL_N hl]; omega, fun a ha _ _ => (q a ha).1, fun k _ => by rw [(q 65 (by omega)).1]⟩
/-- the Model's new row -/
theorem m_adds {m : p_M} {N nb c x y : Nat} (hN : N < 40) (hnb : nb ≤ 20) (e62 : mI m 65 62 = nI N) (e68 : mI m 68 40 = nI nb) (hc : c < 6) (e71 : mI m 71 c = nI x) (e72 : mI m 72 c = nI y) (v2 v3 v4 v5 v6 v7 : Int32) : ∃ m', F_X13_adds (nI c) v2 v3 v4 v5 v6 v7 m = some (nI N, m') ∧ mI m' 65 62 = nI (N + 1) ∧ (∀ k, mI m' 89 k = if k = N then nI c else mI m 89 k) ∧ (∀ k, mI m' 90 k = if k = N then v2 else mI m 90 k) ∧ (∀ k, mI m' 91 k = if k = N then v3 else mI m 91 k) ∧ (∀ k, mI m' 92 k = if k = N then v4 else mI m 92 k) ∧ (∀ k, mI m' 93 k = if k = N then v5 else mI m 93 k) ∧ (∀ k, mI m' 94 k = if k = N then v6 else mI m 94 k) ∧ (∀ k, mI m' 95 k = if k = N then v7 else mI m 95 k) ∧ (∀ k, mI m' 97 k = if k = N then -1 else mI m 97 k) ∧ (∀ k, mI m' 99 k = if k = N then -1 else mI m 99 k) ∧ (∀ k, mI m' 100 k = if k = N then -1 else mI m 100 k) ∧ mI m' 68 N = nI nb ∧ (∀ k, k ≠ N → mI m' 68 k = mI m 68 k) ∧ (∀ k, k < nb → mI m' 69 (20 * N + k) = mI m 69 (800 + k) ∧ mI m' 70 (20 * N + k) = mI m 70 (800 + k)) ∧ (∀ k, k < 20 * N ∨ 20 * N + 20 ≤ k → mI m' 69 k = mI m 69 k ∧ mI m' 70 k = mI m 70 k) ∧ isR (mI m' 74) N (x, x, y, y, 0) ∧ (∀ k, k < 5 * N ∨ 5 * N + 5 ≤ k → mI m' 74 k = mI m 74 k) ∧ Fq [68, 69, 70, 74, 89, 90, 91, 92, 93, 94, 95, 97, 99, 100] [62] m m' := by
  have iN := ix_nI hN (by decide)
  have kN := nI_clamp (show N < 2 ^ 31 by omega)
  have aN : nI N + 1 = nI (N + 1) := nI_add N 1
  obtain ⟨M1, hM1⟩ : ∃ M1, M1 = sI (sI (sI (sI (sI (sI (sI (sI (sI (sI (sI m 65 62 (nI (N + 1))) 89 N (nI c)) 90 N v2) 91 N v3) 92 N v4) 93 N v5) 94 N v6) 95 N v7) 97 N (-1)) 99 N (-1)) 100 N (-1) := ⟨_, rfl⟩
  have f1 : Fq [68, 69, 70, 74, 89, 90, 91, 92, 93, 94, 95, 97, 99, 100] [62] m M1 := by
    rw [hM1]
    repeat (first | exact Fq_refl _ | refine Fq_s65 ?_ (by decide) | refine Fq_sI ?_ (by decide))
  obtain ⟨M2, g1, g2, g3, g4⟩ := m_begins (μ := M1) (r := N) (c := c) (x := x) (y := y) (by omega) hc (by rw [Fq_row f1 71 (by decide)]; exact e71) (by rw [Fq_row f1 72 (by decide)]; exact e72)
  obtain ⟨M3, k1, k2, k3, k4, k5, k6⟩ := m_copies (o := 40) (d := N) (n := nb) (by decide) (by omega) (by omega) hnb (μ := M2) (by rw [Fq_row g4 68 (by decide), hM1]; exact e68)
  have k1 : F_X13_copies 40 (nI N) M2 = some (0, M3) := k1
  have r : ∀ a, a ≠ 65 → a ≠ 68 → a ≠ 69 → a ≠ 70 → a ≠ 74 → mI M3 a = mI M1 a := fun a h1 h2 h3 h4 h5 => by
    rw [k6.2.1 a h1 (by simp only [List.mem_cons, List.not_mem_nil, or_false]; omega), g4.2.1 a h1 (by simp only [List.mem_cons, List.not_mem_nil, or_false]; omega)]
  have e68' : mI M2 68 = mI m 68 := by rw [Fq_row g4 68 (by decide), hM1]; rfl
  have e69' : mI M2 69 = mI m 69 := by rw [Fq_row g4 69 (by decide), hM1]; rfl
  have e70' : mI M2 70 = mI m 70 := by rw [Fq_row g4 70 (by decide), hM1]; rfl
  have e74' : mI M1 74 = mI m 74 := by rw [hM1]; rfl
  refine ⟨M3, ?_, ?_, fun k => ?_, fun k => ?_, fun k => ?_, fun k => ?_, fun k => ?_, fun k => ?_, fun k => ?_, fun k => ?_, fun k => ?_, fun k => ?_, k2, fun k hk => ?_, fun k hk => ?_, fun k hk => ?_, ?_, fun k hk => ?_, Fq_trans f1 (Fq_trans (Fq_mono g4 (by decide) (by decide)) (Fq_mono k6 (by decide) (by decide)))⟩
  · rw [hM1] at g1
    simp only [F_X13_adds, bd_some, p_ok, tM, aM, e62, iN, kN, hN, aN, g1, k1, and_self, true_and, not_false_eq_true, ↓reduceIte]
  · rw [k6.2.2 62 (by simp), g4.2.2 62 (by simp), hM1]; rfl
  · rw [r 89 (by decide) (by decide) (by decide) (by decide) (by decide), hM1]; rfl
  · rw [r 90 (by decide) (by decide) (by decide) (by decide) (by decide), hM1]; rfl
  · rw [r 91 (by decide) (by decide) (by decide) (by decide) (by decide), hM1]; rfl
  · rw [r 92 (by decide) (by decide) (by decide) (by decide) (by decide), hM1]; rfl
  · rw [r 93 (by decide) (by decide) (by decide) (by decide) (by decide), hM1]; rfl
  · rw [r 94 (by decide) (by decide) (by decide) (by decide) (by decide), hM1]; rfl
  · rw [r 95 (by decide) (by decide) (by decide) (by decide) (by decide), hM1]; rfl
  · rw [r 97 (by decide) (by decide) (by decide) (by decide) (by decide), hM1]; rfl
  · rw [r 99 (by decide) (by decide) (by decide) (by decide) (by decide), hM1]; rfl
  · rw [r 100 (by decide) (by decide) (by decide) (by decide) (by decide), hM1]; rfl
  · rw [k3 k hk, e68']
  · have := k4 k hk
    rw [e69', e70'] at this
    exact this
  · have := k5 k hk
    rw [e69', e70'] at this
    exact this
  · rw [Fq_row k6 74 (by decide)]; exact g2
  · rw [Fq_row k6 74 (by decide), g3 k hk, e74']
abbrev lC : List Nat := [37, 68, 69, 70, 74, 89, 90, 91, 92, 93, 94, 95, 97, 99, 100]
theorem A_lot {μ : p_M} (hS : Sh μ) (hE : mN μ + 8 < p_E) (hR : RLots μ) (hRC : RCloth μ) (hRR : RRec μ) (v1 v2 v3 v4 v5 v6 v7 : Int32) : wp (F_L_lot 0 v1 v2 v3 v4 v5 v6 v7 112 μ) fun k μ1 => wp (F_X13_lot v1 v2 v3 v4 v5 v6 v7 μ1) fun b μ2 => Post k b μ μ2 ∧ RLots μ2 ∧ (∀ k, 40 ≤ k → mI μ2 68 k = mI μ 68 k) ∧ (∀ k, 800 ≤ k → mI μ2 69 k = mI μ 69 k ∧ mI μ2 70 k = mI μ 70 k) ∧ Fl lC [0, 62] μ μ2 := by
  have hR0 := hR
  obtain ⟨N, K, M, C, E, lr, hLs, hC, hK, hLot, hM, hZ, hzr, hme, hld⟩ := hR
  have hLs0 := hLs
  obtain ⟨l1, l2, l3, l4, l5, l6⟩ := hLs
  obtain ⟨n, hn6, n1, n2, hcl⟩ := hRC
  have hCn : C = n := (nI_eq (show C < 2 ^ 31 by have := hC.2; omega) (show n < 2 ^ 31 by omega)).mp (hC.1.symm.trans n2)
  have o37 : 37 < mN μ ∧ mK μ 37 = 0 := ⟨(s_o37 hS).2, (s_o37 hS).1⟩
  have thr : ∀ x : Int32, ¬ x = 0 → Post x 0 μ (sI (sI (sG μ 1 6) 65 0 0) 65 0 x) ∧ RLots (sI (sI (sG μ 1 6) 65 0 0) 65 0 x) ∧ Fl lC [0, 62] μ (sI (sI (sG μ 1 6) 65 0 0) 65 0 x) := fun x hx => ⟨thr_post hx, RLots_fr0 thr_fr (by decide) (by decide) (by decide) (by decide) hR0, Fl_of hS (Fr_mono thr_fr (by decide) (by decide))⟩
  rcases ix3 v1 (nI n) (nI n - 1) n (by omega) rfl rfl with ⟨c1, c2⟩ | ⟨j, hj, rfl, c1, c2, c3, c4⟩
  · simp only [bd_some, p_let_eq, p_ok, mI_sI, mR_sI, mK_sI, mN_sI, mL_sI, mI_sG, mR_sG, mK_sG, mN_sG, mL_sG, mI_sJ, mR_sJ, mK_sJ, mN_sJ, mL_sJ, z_up, ↓reduceIte, and_self, true_and, and_true, false_and, and_false, not_true_eq_false, not_false_eq_true, Nat.reduceEqDiff, i_10, i_20, i_30, w_in, w_need1, w_need0, m_in, m_thr0, m_thr1, tM, aM, nI_1, nI_pred, reduceIte, wp_some, eq_self, bI_T, bI_F, F_L_lot, F_X12_lot, w_ix, n1, c1, F_X13_lot, F_X13_lot_c21, F_X13_lot_c26, F_X13_lot_c102, m_noCloth, n2, c2, s_o0 hS, s_r0_0 hS, s_r0_1 hS, s_r0_10 hS, s_r0_11 hS, s_r0_12 hS, s_r0_14 hS, s_r0_16 hS, s_r0_19 hS, s_r0_7 hS, s_r0_8 hS, s_r0_9 hS, s_o112 hS]
    exact ⟨(thr 1 (by decide)).1, (thr 1 (by decide)).2.1, fun _ _ => trivial, fun _ _ => trivial, (thr 1 (by decide)).2.2⟩
  · rcases ix3 v3 6 5 6 (by decide) rfl rfl with ⟨d1, d2⟩ | ⟨kd, hkd, rfl, d1, d2, d3, d4⟩
    · simp only [bd_some, p_let_eq, p_ok, mI_sI, mR_sI, mK_sI, mN_sI, mL_sI, mI_sG, mR_sG, mK_sG, mN_sG, mL_sG, mI_sJ, mR_sJ, mK_sJ, mN_sJ, mL_sJ, z_up, ↓reduceIte, and_self, true_and, and_true, false_and, and_false, not_true_eq_false, not_false_eq_true, Nat.reduceEqDiff, i_10, i_20, i_30, w_in, w_need1, w_need0, m_in, m_thr0, m_thr1, tM, aM, nI_1, nI_pred, reduceIte, wp_some, eq_self, bI_T, bI_F, F_L_lot, F_X12_lot, w_ix, n1, c1, d1, F_X13_lot, F_X13_lot_c21, F_X13_lot_c26, F_X13_lot_c102, m_noCloth, m_noKind, n2, c2, d2, s_o0 hS, s_r0_0 hS, s_r0_1 hS, s_r0_10 hS, s_r0_11 hS, s_r0_12 hS, s_r0_14 hS, s_r0_16 hS, s_r0_19 hS, s_r0_7 hS, s_r0_8 hS, s_r0_9 hS, s_o112 hS]
      exact ⟨(thr 1 (by decide)).1, (thr 1 (by decide)).2.1, fun _ _ => trivial, fun _ _ => trivial, (thr 1 (by decide)).2.2⟩
    · by_cases e1 : 1 ≤ v2 ∧ v2 ≤ 60
      · by_cases e2 : wish v4 v5 v6
        · have e2t : wish v4 v5 v6 = True := eq_true e2
          by_cases e3 : 0 ≤ v7 ∧ v7 ≤ 400
          · by_cases hN : N < 40
            · obtain ⟨P, hP1, hP2, rfl⟩ := rg3 v2 1 60 1 60 rfl rfl (by decide) (by decide) e1
              obtain ⟨du, -, hdu, rfl⟩ := rg3 v7 0 400 0 400 rfl rfl (by decide) (by decide) e3
              have hN40 : nI N < 40 := nI_lt (b := 40) hN (by decide)
              have hne : ¬ nI N = 40 := fun e => by have := (nI_eq (show N < 2 ^ 31 by omega) (show 40 < 2 ^ 31 by decide)).mp e; omega
              obtain ⟨R, B, A, nb, hnb, rR, hrec, hRC', e68, hRBA⟩ := rec_get hS hRR
              obtain ⟨x, y, z, hx, hy, hz, s1, s2, s3, hL⟩ := hcl j hj
              rw [cf_eq (show j < 6 by omega)] at hL
              obtain ⟨l, hl⟩ : ∃ l, mN μ = l := ⟨_, rfl⟩
              have h113 : 113 ≤ l := by have := hS.2.1; omega
              have hEl : l + 8 < p_E := by omega
              have hRl : R < 65 ∧ B < 65 ∧ A < 65 ∧ R ≠ 37 ∧ B ≠ 37 ∧ A ≠ 37 := by omega
              -- the class makes it
              have T1 := c_newLot (μ := μ) (v1 := nI j) (v3 := nI kd) (v4 := nI du) (nb := nb) (P := P) hl hEl hP2 hnb
              obtain ⟨ν1, hν1⟩ : ∃ ν1, ν1 = nwL μ (nI j) (nI P) (nI kd) (nI du) nb P := ⟨_, rfl⟩
              have S1 : LotS ν1 l P nb := by rw [hν1]; exact nwL_S hl h113 hEl
              have N1 : mN ν1 = l + 7 := by rw [hν1]; exact nwL_N hl
              have F1 : Fl [] [] μ ν1 := by rw [hν1]; exact Fl_nw hS hl hEl
              have old1 : ∀ a, a < l → mI ν1 a = mI μ a ∧ mR ν1 a = mR μ a ∧ mK ν1 a = mK μ a ∧ mL ν1 a = mL μ a := fun a ha => by rw [hν1]; exact nwL_old hl ha
              have I1 : ∀ k, mI ν1 l k = if k = 3 then nI du else if k = 2 then nI kd else if k = 1 then nI P else if k = 0 then nI j else if k = 13 then -1 else if k = 12 then -1 else if k = 10 then -1 else if k = 9 then 0 else 0 := fun k => by
                rw [hν1, nwL_I hl, if_neg (by omega), nwC_I hl, if_neg (by omega), if_neg (by omega), if_neg (by omega), if_neg (by omega), if_neg (by omega), nwA_I hl, if_pos rfl]
              have I5 : mI ν1 (l + 5) = fun _ => 0 := by
                rw [hν1, nwL_I hl, if_neg (by omega), nwC_I hl, if_neg (by omega), if_pos rfl]
              have I6 : mI ν1 (l + 6) = fun k => if k < P then -1 else 0 := by
                rw [hν1, nwL_I hl, if_pos rfl]
              have CS1 : mC ν1 = mC μ + 7 ∧ mS ν1 = mS μ + 17 + 6 + 3 + nb + nb + P + P := by rw [hν1]; exact nwL_CS
              rw [← hν1] at T1
              have hS1 := Sh_fl F1 hS
              obtain ⟨ν2, hν2⟩ : ∃ ν2, ν2 = sI (sI (sI ν1 l 4 v4) l 5 v5) l 6 v6 := ⟨_, rfl⟩
              have W1 : F_X4_wishFor l v4 v5 v6 ν1 = some (0, ν2) := by
                rw [hν2]
                simp only [F_X4_wishFor, p_ok, p_let_eq, S1.2.1, and_self, ↓reduceIte]
              have f12 : Fq [l, l + 1, l + 2, l + 3, l + 4] [] ν1 ν2 := by
                rw [hν2]
                exact Fq_sI (Fq_sI (Fq_sI (Fq_refl _) ⟨by simp, by omega⟩) ⟨by simp, by omega⟩) ⟨by simp, by omega⟩
              have f12' : Fq [l, l + 1, l + 2, l + 3, l + 4] [] ν1 (sI ν2 (l + 2) 2 0) := Fq_sI f12 ⟨by simp, by omega⟩
              have rec1 : isRec ν1 R B A 20 := isRec_g (by omega) ⟨(old1 R (by omega)).2.1, (old1 R (by omega)).2.2.1⟩ ⟨(old1 B (by omega)).2.2.1, (old1 B (by omega)).2.2.2⟩ ⟨(old1 A (by omega)).2.2.1, (old1 A (by omega)).2.2.2⟩ hrec
              have rowq : ∀ {ν : p_M}, Fq [l, l + 1, l + 2, l + 3, l + 4] [] ν1 ν → ∀ a, a < l → mI ν a = mI μ a := fun {ν} f a ha => by
                by_cases h : a = 65
                · subst h
                  funext k
                  rw [f.2.2 k (by simp), (old1 65 (by omega)).1]
                · rw [f.2.1 a h (by simp only [List.mem_cons, List.not_mem_nil, or_false]; omega), (old1 a ha).1]
              obtain ⟨ν3, g1, g2, g3, g4, g5⟩ := c_copyR (R := R) (B := B) (A := A) (n0 := nb) (l := l) (nb := nb) (Nat.le_refl _) hnb h113 ⟨by omega, by omega, by omega⟩ nb 0 p_fu (sI ν2 (l + 2) 2 0) (by omega) (show nb < 100000 by omega) (isRec_q f12' rec1) (isRec_q f12' S1.2.2.2.2.2.2.2.1) (by rw [rowq f12' R (by omega)]; exact hRC'.1) (by rw [mI_sI, if_pos rfl, z_up, if_pos rfl]; rfl)
              have g1 : F_X8_copy_c7 p_fu (l + 2) R 0 (sI ν2 (l + 2) 2 0) = some (0, ν3) := g1
              have f13 : Fq [l, l + 1, l + 2, l + 3, l + 4] [] ν1 ν3 := Fq_trans f12' (Fq_mono g5 (by simp) (fun a h => h))
              have K2 : mK ν2 = mK ν1 := by show ν2.2.2.2.1 = ν1.2.2.2.1; rw [f12.1]
              have N2 : mN ν2 = mN ν1 := by show ν2.2.2.2.2.2.1 = ν1.2.2.2.2.2.1; rw [f12.1]
              have R2 : mR ν2 = mR ν1 := by show ν2.2.1 = ν1.2.1; rw [f12.1]
              have K3 : mK ν3 = mK ν1 := by show ν3.2.2.2.1 = ν1.2.2.2.1; rw [f13.1]
              have N3 : mN ν3 = mN ν1 := by show ν3.2.2.2.2.2.1 = ν1.2.2.2.2.2.1; rw [f13.1]
              have R3 : mR ν3 = mR ν1 := by show ν3.2.1 = ν1.2.1; rw [f13.1]
              have L3 : mL ν3 = mL ν1 := by show ν3.2.2.2.2.1 = ν1.2.2.2.2.1; rw [f13.1]
              have X8 : F_X8_copy (l + 2) R ν2 = some (0, ν3) := by
                simp only [F_X8_copy, p_ok, p_let_eq, K2, N2, S1.2.2.2.2.2.2.2.1.1, g1, and_self, ↓reduceIte]
              have o51 := s_o51v hS1 (show j < 6 by omega)
              obtain ⟨ν4, k1, k2, k3⟩ := c_copy (μ := ν3) (a := l + 1) (c := 51 + j) (h := z) (L := (x, x, y, y, 0)) (by rw [K3, N3]; exact S1.2.2.2.2.2.2.1) (by rw [K3, N3]; exact o51) (by omega) (by omega) (by rw [rowq f13 (51 + j) (by omega)]; exact hL) ⟨hx, hx, hy, hy, Nat.zero_le 1⟩
              have f14 : Fq [l, l + 1, l + 2, l + 3, l + 4] [] ν1 ν4 := Fq_trans f13 (Fq_mono k3 (by simp) (fun a h => h))
              have hS4 := Sh_q f14 hS1
              have K4 : mK ν4 = mK ν1 := by show ν4.2.2.2.1 = ν1.2.2.2.1; rw [f14.1]
              have N4 : mN ν4 = mN ν1 := by show ν4.2.2.2.2.2.1 = ν1.2.2.2.2.2.1; rw [f14.1]
              have R4 : mR ν4 = mR ν1 := by show ν4.2.1 = ν1.2.1; rw [f14.1]
              have L4 : mL ν4 = mL ν1 := by show ν4.2.2.2.2.1 = ν1.2.2.2.2.1; rw [f14.1]
              have C4 : mC ν4 = mC ν1 := by show ν4.2.2.2.2.2.2.1 = ν1.2.2.2.2.2.2.1; rw [f14.1]
              have Q4 : mS ν4 = mS ν1 := by show ν4.2.2.2.2.2.2.2 = ν1.2.2.2.2.2.2.2; rw [f14.1]
              have hLE : LstE ν4 N E lr := by
                unfold LstE
                rw [R4, N4, K4, L4, (old1 37 (by omega)).2.1]
                rcases l4 with h | ⟨q1, q2, q3, q4, q5, q6, q7, q8⟩
                · exact Or.inl h
                · have oE := old1 E (by omega)
                  exact Or.inr ⟨q1, q2, q3, by omega, oE.2.2.1.trans q5, by rw [oE.2.2.2]; exact q6, by rw [oE.2.2.2]; exact q7, fun j hj => by rw [oE.2.1]; exact q8 j hj⟩
              obtain ⟨E', ν5, z1, z2⟩ := c_addLot (μ := ν4) (l := l) hS4 (by rw [K4, N4]; exact S1.2.1) (by rw [rowq f14 37 (by omega)]; exact l1) hN hLE
              obtain ⟨y1, y2, y3, y4, y5, y6, y7, y8, y9, y10, y11, y12, y13, y14, y15, y16, y17⟩ := z2
              rw [N4, N1] at y10 y11 y12 y13 y14 y15
              -- what the class left
              have i5 : ∀ a, a < l → a ≠ 37 → mI ν5 a = mI μ a := fun a ha h37 => (y12 a (by omega) h37).trans (rowq f14 a ha)
              have c23 : 23 ≤ 23 ∧ 23 ≤ 26 := by decide
              have ij := ix_nI (show j < 6 by omega) (by decide)
              have j6 : j < 6 := by omega
              have r3 := s_r3 hS1 (show j < 6 by omega)
              have r03 : mR μ 0 3 = some R := rR
              have n0 : ¬ 0 = l := by omega
              have nR : ¬ R = l := by omega
              have oR : mK μ R = 9 ∧ R < mN μ := hrec.1
              have lR : R < l + 1 := by omega
              have l0 : 0 < l + 1 := by omega
              have ll : l < l + 1 := by omega
              have l0' : 0 < l := by omega
              have l37' : 37 < l := by omega
              have len : mI μ R 2 = nI nb := hRC'.1
              have r03' : mR ν1 0 3 = some R := by rw [(old1 0 (by omega)).2.1]; exact rR
              have o112 : mK ν5 112 = 22 ∧ ¬ (0 : Int32) < 0 ∧ (0 : Int32).toNatClampNeg < mL ν5 112 ∧ 112 < mN ν5 := by
                have q := s_o112 hS4
                rw [(y11 112 (by omega)).1, (y11 112 (by omega)).2]
                exact ⟨q.1, q.2.1, q.2.2.1, by omega⟩
              have hcls : F_X12_lot 0 (nI j) (nI P) (nI kd) v4 v5 v6 (nI du) μ = some (0, nI N, ν5) := by
                simp only [bd_some, p_let_eq, p_ok, mI_sI, mR_sI, mK_sI, mN_sI, mL_sI, mI_sG, mR_sG, mK_sG, mN_sG, mL_sG, mI_sJ, mR_sJ, mK_sJ, mN_sJ, mL_sJ, z_up, ↓reduceIte, and_self, true_and, and_true, false_and, and_false, not_true_eq_false, not_false_eq_true, Nat.reduceEqDiff, i_10, i_20, i_30, w_in, w_need1, w_need0, m_in, m_thr0, m_thr1, tM, aM, nI_1, nI_pred, reduceIte, wp_some, eq_self, bI_T, bI_F, F_X12_lot, w_ix, w_wish, w_room, n1, c1, d1, e1, e3, e2t, s_o0 hS, s_r0_0 hS, s_r0_1 hS, s_r0_10 hS, s_r0_11 hS, s_r0_12 hS, s_r0_14 hS, s_r0_16 hS, s_r0_19 hS, s_r0_7 hS, s_r0_8 hS, s_r0_9 hS, o37, l1, hN40, hl, mK_sN, mN_sN, mR_sN, mI_sN, n0, nR, r03, (s_o0 hS).1, oR.1, lR, l0, ll, l0', l37', len, T1, S1.2.1, W1, K2, N2, R2, S1.2.2.1, s_o0 hS1, s_r0_0 hS1, s_r0_1 hS1, s_r0_10 hS1, s_r0_11 hS1, s_r0_12 hS1, s_r0_14 hS1, s_r0_16 hS1, s_r0_19 hS1, s_r0_7 hS1, s_r0_8 hS1, s_r0_9 hS1, r03', S1.2.2.2.2.2.2.2.1.1, X8, K3, N3, R3, L3, S1.2.2.2.1, s_a3 hS1, s_l3 hS1, s_o3 hS1, s_r3_0 hS1, s_r3_1 hS1, s_r3_2 hS1, s_r3_3 hS1, s_r3_4 hS1, s_r3_5 hS1, c23, ij, c4, j6, r3, S1.2.2.2.2.2.2.1, k1, K4, N4, z1, and_self, true_and, not_false_eq_true, ↓reduceIte]
              obtain ⟨m0, hm0⟩ : ∃ m0, m0 = sI (sJ ν5 112 (Int32.toNatClampNeg 0) (nI N).toInt64) 65 0 0 := ⟨_, rfl⟩
              have m0r : ∀ a, a ≠ 65 → mI m0 a = mI ν5 a := fun a ha => by rw [hm0, mI_sI, if_neg ha]; rfl
              have m0s : ∀ k, k ≠ 0 → mI m0 65 k = mI μ 65 k := fun k hk => by
                rw [hm0, mI_sI, if_pos rfl, z_up, if_neg hk]
                show mI ν5 65 k = _
                rw [i5 65 (by omega) (by decide)]
              have m0l : ∀ a, a < l → a ≠ 37 → a ≠ 65 → mI m0 a = mI μ a := fun a h1 h2 h3 => (m0r a h3).trans (i5 a h1 h2)
              obtain ⟨m', A1, A2, A3, A4, A5, A6, A7, A8, A9, A10, A11, A12, A13, A14, A15, A16, A17, A18, A19⟩ := m_adds (m := m0) (N := N) (nb := nb) (c := j) (x := x) (y := y) hN hnb (by rw [m0s 62 (by decide)]; exact l2) (by rw [m0l 68 (by omega) (by decide) (by decide)]; exact e68) (by omega) (by rw [m0l 71 (by omega) (by decide) (by decide)]; exact s1) (by rw [m0l 72 (by omega) (by decide) (by decide)]; exact s2) (nI P) (nI kd) v4 v5 v6 (nI du)
              have e2' : ¬ ¬ wish v4 v5 v6 := fun h => h e2
              have e62m : mI m0 65 62 = nI N := by rw [m0s 62 (by decide)]; exact l2
              have hmod : F_X13_lot (nI j) (nI P) (nI kd) v4 v5 v6 (nI du) (sJ ν5 112 (Int32.toNatClampNeg 0) (nI N).toInt64) = some (nI N, m') := by
                have n2' : mI (sJ ν5 112 (Int32.toNatClampNeg 0) (nI N).toInt64) 65 14 = nI n := by
                  show mI ν5 65 14 = nI n
                  rw [i5 65 (by omega) (by decide)]; exact n2
                have n62' : mI (sJ ν5 112 (Int32.toNatClampNeg 0) (nI N).toInt64) 65 62 = nI N := by
                  show mI ν5 65 62 = nI N
                  rw [i5 65 (by omega) (by decide)]; exact l2
                rw [hm0] at A1
                simp only [F_X13_lot, F_X13_lot_c26, F_X13_lot_c73, F_X13_lot_c95, bd_some, tM, m_noCloth, m_noKind, m_in, m_thr0, m_noWish, bI_neg e2', bI_pos e1, bI_pos e3, i_10, not_false_eq_true, not_true_eq_false, ↓reduceIte, mI_sI, z_up, Nat.reduceEqDiff, n2', n62', c2, d2, and_self, bI_F, hne, A1]
              have hm'2 : m'.2 = (sJ ν5 112 (Int32.toNatClampNeg 0) (nI N).toInt64).2 := by rw [A19.1, hm0]; rfl
              have RR : mR m' = mR ν5 := by show m'.2.1 = ν5.2.1; rw [hm'2]; rfl
              have KK : mK m' = mK ν5 := by show m'.2.2.2.1 = ν5.2.2.2.1; rw [hm'2]; rfl
              have LL : mL m' = mL ν5 := by show m'.2.2.2.2.1 = ν5.2.2.2.2.1; rw [hm'2]; rfl
              have NN : mN m' = mN ν5 := by show m'.2.2.2.2.2.1 = ν5.2.2.2.2.2.1; rw [hm'2]; rfl
              have CC : mC m' = mC ν5 := by show m'.2.2.2.2.2.2.1 = ν5.2.2.2.2.2.2.1; rw [hm'2]; rfl
              have SS : mS m' = mS ν5 := by show m'.2.2.2.2.2.2.2 = ν5.2.2.2.2.2.2.2; rw [hm'2]; rfl
              have JJ : mJ m' 112 0 = (nI N).toInt64 := by
                show m'.2.2.1 112 0 = _
                rw [hm'2]
                exact mJ_sJ (μ := ν5) (a := 112) (k := 0) _
              have mr : ∀ a, a ≠ 65 → a ∉ [68, 69, 70, 74, 89, 90, 91, 92, 93, 94, 95, 97, 99, 100] → mI m' a = mI ν5 a := fun a h1 h2 => (A19.2.1 a h1 h2).trans (m0r a h1)
              have mrH : ∀ a, 113 ≤ a → mI m' a = mI ν5 a := fun a h1 => mr a (by omega) (by simp only [List.mem_cons, List.not_mem_nil, or_false]; omega)
              have mrL : ∀ a, a < l → a ≠ 37 → a ≠ 65 → a ∉ [68, 69, 70, 74, 89, 90, 91, 92, 93, 94, 95, 97, 99, 100] → mI m' a = mI μ a := fun a h1 h2 h3 h4 => (mr a h3 h4).trans (i5 a h1 h2)
              have ms : ∀ k, k ≠ 0 → k ≠ 62 → mI m' 65 k = mI μ 65 k := fun k h1 h2 => by
                rw [A19.2.2 k (by simp only [List.mem_cons, List.not_mem_nil, or_false]; exact h2)]; exact m0s k h1
              have hi4 : ∀ a, l ≤ a → a ≤ l + 6 → mI m' a = mI ν4 a := fun a h1 h2 => (mrH a (by omega)).trans (y12 a (by omega) (by omega))
              have lrl : ∀ j, j < N → 113 ≤ lr j ∧ lr j + 7 ≤ l := fun j hj => by
                obtain ⟨P, nb, ⟨s0, -, -, -, -, -, -, -, -, -, s10, -⟩, -⟩ := hLot j hj
                exact ⟨s0, by have := s10.2.2; omega⟩
              have hEl' : ∀ j, j < N → ∀ a, lr j ≤ a → a ≤ lr j + 6 → a ≠ E' := fun j hj a h1 h2 h3 => by
                rcases y10 with ⟨q1, q2⟩ | q1
                · have := l6 j hj; omega
                · have := (lrl j hj).2; omega
              have R5 : ∀ a, a < l → a ≠ 37 → a ≠ E' → mR m' a = mR μ a := fun a h1 h2 h3 => by rw [RR, y13 a (by omega) h2 h3, R4, (old1 a h1).2.1]
              have K5 : ∀ a, a < l → mK m' a = mK μ a ∧ mL m' a = mL μ a := fun a h1 => by
                rw [KK, LL, (y11 a (by omega)).1, (y11 a (by omega)).2, K4, L4]
                exact (old1 a h1).2.2
              have hE'l : ∀ a, l ≤ a → a ≤ l + 6 → a ≠ E' := fun a h1 h2 h3 => by
                rcases y10 with ⟨q1, q2⟩ | q1
                · rcases l4 with ⟨q, -⟩ | ⟨-, -, -, q, -⟩
                  · omega
                  · omega
                · omega
              have S5 : LotS m' l P nb := by
                refine LotS_pt (μ := ν1) (by omega) (fun a h1 h2 => ⟨?_, ?_, ?_⟩) S1
                · rw [RR, y13 a (by omega) (by omega) (hE'l a h1 h2), R4]
                · rw [KK, (y11 a (by omega)).1, K4]
                · rw [LL, (y11 a (by omega)).2, L4]
              -- the new lot's cells
              have q14 : ∀ a, a ≠ l + 1 → a ≠ l + 2 → a ≠ l + 3 → a ≠ l + 4 → a ≠ 65 → mI ν4 a = mI ν2 a := fun a h1 h2 h3 h4 h5 => by
                rw [k3.2.1 a h5 (by simp only [List.mem_cons, List.not_mem_nil, or_false]; omega), g5.2.1 a h5 (by simp only [List.mem_cons, List.not_mem_nil, or_false]; omega), mI_sI, if_neg h2]
              have V0 : ∀ k, mI m' l k = if k = 6 then v6 else if k = 5 then v5 else if k = 4 then v4 else mI ν1 l k := fun k => by
                rw [hi4 l (by omega) (by omega), q14 l (by omega) (by omega) (by omega) (by omega) (by omega), hν2, mI_sI, if_pos rfl, z_up, mI_sI, if_pos rfl, z_up, mI_sI, if_pos rfl, z_up]
              have V5 : ∀ k, mI m' (l + 5) k = 0 := fun k => by
                rw [hi4 _ (by omega) (by omega), q14 _ (by omega) (by omega) (by omega) (by omega) (by omega), hν2, mI_sI, if_neg (by omega), mI_sI, if_neg (by omega), mI_sI, if_neg (by omega), I5]
              have V6 : ∀ k, k < P → mI m' (l + 6) k = -1 := fun k hk => by
                rw [hi4 _ (by omega) (by omega), q14 _ (by omega) (by omega) (by omega) (by omega) (by omega), hν2, mI_sI, if_neg (by omega), mI_sI, if_neg (by omega), mI_sI, if_neg (by omega), I6]
                exact if_pos hk
              have q3 : ∀ a, a ≠ l + 1 → a ≠ 65 → mI ν4 a = mI ν3 a := fun a h1 h2 => k3.2.1 a h2 (by simp only [List.mem_cons, List.not_mem_nil, or_false]; omega)
              have V2 : mI m' (l + 2) 2 = nI nb := by rw [hi4 _ (by omega) (by omega), q3 _ (by omega) (by omega)]; exact g2
              have V3 : ∀ k, k < nb → mI m' (l + 3) k = mI μ B k := fun k hk => by
                rw [hi4 _ (by omega) (by omega), q3 _ (by omega) (by omega), g3, if_pos ⟨Nat.zero_le _, hk⟩, rowq f12' B (by omega)]
              have V4 : ∀ k, k < nb → mI m' (l + 4) k = mI μ A k := fun k hk => by
                rw [hi4 _ (by omega) (by omega), q3 _ (by omega) (by omega), g4, if_pos ⟨Nat.zero_le _, hk⟩, rowq f12' A (by omega)]
              have V1 : isL (mI m' (l + 1)) (x, x, y, y, 0) z := by rw [hi4 _ (by omega) (by omega)]; exact k2
              have w96 : mI m' 96 N = 0 := by rw [mrL 96 (by omega) (by decide) (by decide) (by decide)]; exact (hzr.1 N (Nat.le_refl _) hN).1
              have w98 : mI m' 98 N = 0 := by rw [mrL 98 (by omega) (by decide) (by decide) (by decide)]; exact (hzr.1 N (Nat.le_refl _) hN).2.1
              have w101 : mI m' 101 N = 0 := by rw [mrL 101 (by omega) (by decide) (by decide) (by decide)]; exact (hzr.1 N (Nat.le_refl _) hN).2.2
              have r103 : mI m' 103 = mI μ 103 := mrL 103 (by omega) (by decide) (by decide) (by decide)
              have r104 : mI m' 104 = mI μ 104 := mrL 104 (by omega) (by decide) (by decide) (by decide)
              have r105 : mI m' 105 = mI μ 105 := mrL 105 (by omega) (by decide) (by decide) (by decide)
              have m0row : ∀ a, 66 ≤ a → a ≤ 111 → mI m0 a = mI μ a := fun a h1 h2 => m0l a (by omega) (by omega) (by omega)
              obtain ⟨a4, -, a4', rfl⟩ := rg3 v4 0 255 0 255 rfl rfl (by decide) (by decide) ⟨e2.1, by have := e2.2.1; have := e2.2.2.1; rw [Int32.le_iff_toInt_le] at *; omega⟩
              obtain ⟨a5, -, a5', rfl⟩ := rg3 v5 0 255 0 255 rfl rfl (by decide) (by decide) ⟨by have := e2.1; have := e2.2.1; rw [Int32.le_iff_toInt_le] at *; omega, e2.2.2.1⟩
              obtain ⟨a6, -, a6', rfl⟩ := rg3 v6 0 255 0 255 rfl rfl (by decide) (by decide) ⟨e2.2.2.2.1, e2.2.2.2.2⟩
              have hnew : LotR m' C K M N l := by
                refine ⟨P, nb, S5, ?_, ?_, ⟨(x, x, y, y, 0), z, j, ⟨hx, hx, hy, hy, Nat.zero_le 1⟩, hz, V1, A17, by omega, by rw [A3, if_pos rfl], ?_⟩, ⟨hnb, A13, V2, fun q hq => ?_⟩, fun p hp => ⟨?_, 0, by decide, ?_⟩, fun p hp => ?_⟩
                · unfold LotV
                  rw [V0, V0, V0, V0, V0, V0, V0, V0, V0, V0, V0, V0, V0, I1, I1, I1, I1, I1, I1, I1, I1, I1, I1, I1, I1, I1, A3, A4, A5, A6, A7, A8, A9, A10, A11, A12, w96, w98, w101]
                  exact ⟨(if_pos rfl).symm, (if_pos rfl).symm, (if_pos rfl).symm, (if_pos rfl).symm, (if_pos rfl).symm, (if_pos rfl).symm, (if_pos rfl).symm, rfl, (if_pos rfl).symm, rfl, (if_pos rfl).symm, (if_pos rfl).symm, rfl⟩
                · unfold LotG bnN
                  rw [A3, A4, A5, A6, A7, A8, A9, w96, w98, w101, if_pos rfl, if_pos rfl, if_pos rfl, if_pos rfl, if_pos rfl, if_pos rfl, if_pos rfl]
                  exact ⟨⟨j, by omega, rfl⟩, rfl, hP1, hP2, ⟨kd, by omega, by omega, rfl⟩, ⟨a4, by omega, a4', rfl⟩, ⟨a5, by omega, a5', rfl⟩, ⟨a6, by omega, a6', rfl⟩, ⟨du, by omega, hdu, rfl⟩, ⟨0, by decide, by decide, rfl⟩, ⟨0, by omega, rfl, fun h => absurd h (by decide)⟩, ⟨0, by decide, by decide, rfl⟩, fun h => by rcases h with h | h <;> exact absurd h (by decide)⟩
                · rw [mrL 73 (by omega) (by decide) (by decide) (by decide)]; exact s3
                · obtain ⟨bx, ay, q1, q2, q3', q4, q5, q6, q7⟩ := hRC'.2 q hq
                  have h15 := A15 q hq
                  rw [m0row 69 (by decide) (by decide), m0row 70 (by decide) (by decide)] at h15
                  exact ⟨bx, ay, q1, q2, q3', (V3 q hq).trans q4, (V4 q hq).trans q5, h15.1.trans q6, h15.2.trans q7⟩
                · rw [V5, r103]; exact (hzr.2 _ (by omega) (by omega)).symm
                · rw [r103]; exact hzr.2 _ (by omega) (by omega)
                · rw [V6 p hp, r104, r105]
                  refine (lastM_none M (fun k hk e => ?_)).symm
                  obtain ⟨-, -, -, -, j', p', q1, q2, q3', -⟩ := hme.2.2.2.2 k hk
                  have := (nI_eq (show j' < 2 ^ 31 by omega) (show N < 2 ^ 31 by omega)).mp (q3'.symm.trans e)
                  omega
              have hd2 : ∀ a, a ∈ [68, 89, 90, 91, 92, 93, 94, 95, 97, 99, 100, 101] → ∀ k, k ≠ N → mI m' a k = mI μ a k := fun a ha k hk => by
                have hx1 : a = 68 ∨ a = 89 ∨ a = 90 ∨ a = 91 ∨ a = 92 ∨ a = 93 ∨ a = 94 ∨ a = 95 ∨ a = 97 ∨ a = 99 ∨ a = 100 ∨ a = 101 := by
                  simp only [List.mem_cons, List.not_mem_nil, or_false] at ha; omega
                rw [← m0row a (by omega) (by omega)]
                rcases hx1 with rfl | rfl | rfl | rfl | rfl | rfl | rfl | rfl | rfl | rfl | rfl | rfl
                · exact A14 k hk
                · rw [A3, if_neg hk]
                · rw [A4, if_neg hk]
                · rw [A5, if_neg hk]
                · rw [A6, if_neg hk]
                · rw [A7, if_neg hk]
                · rw [A8, if_neg hk]
                · rw [A9, if_neg hk]
                · rw [A10, if_neg hk]
                · rw [A11, if_neg hk]
                · rw [A12, if_neg hk]
                · rw [Fq_row A19 101 (by decide)]
              have hd3 : ∀ k, k < 20 * N ∨ 20 * N + 20 ≤ k → mI m' 69 k = mI μ 69 k ∧ mI m' 70 k = mI μ 70 k := fun k hk => by
                have := A16 k hk
                rw [m0row 69 (by decide) (by decide), m0row 70 (by decide) (by decide)] at this
                exact this
              have hd1 : ∀ a, 66 ≤ a → a ≤ 107 → a ∉ [68, 69, 70, 74, 89, 90, 91, 92, 93, 94, 95, 97, 99, 100, 101, 103] → mI m' a = mI μ a := fun a h1 h2 h3 => mrL a (by omega) (by omega) (by omega) (fun h => h3 (by simp only [List.mem_cons, List.not_mem_nil, or_false] at h ⊢; omega))
              have hpre : mN μ + 8 < p_E := hE
              simp only [bd_some, p_let_eq, p_ok, mI_sI, mR_sI, mK_sI, mN_sI, mL_sI, mI_sG, mR_sG, mK_sG, mN_sG, mL_sG, mI_sJ, mR_sJ, mK_sJ, mN_sJ, mL_sJ, z_up, ↓reduceIte, and_self, true_and, and_true, false_and, and_false, not_true_eq_false, not_false_eq_true, Nat.reduceEqDiff, i_10, i_20, i_30, w_in, w_need1, w_need0, m_in, m_thr0, m_thr1, tM, aM, nI_1, nI_pred, reduceIte, wp_some, eq_self, bI_T, bI_F, F_L_lot, s_o0 hS, s_r0_0 hS, s_r0_1 hS, s_r0_10 hS, s_r0_11 hS, s_r0_12 hS, s_r0_14 hS, s_r0_16 hS, s_r0_19 hS, s_r0_7 hS, s_r0_8 hS, s_r0_9 hS, hcls, o112]
              rw [hmod]
              simp only [wp_some]
              refine ⟨⟨?_, fun _ => JJ, ?_, ?_⟩, new_RL hLs0 hC hK hLot hM hZ hzr hme hld hN hl ?_ ?_ y3 ?_ ?_ ?_ ?_ (fun j hj => ?_) ?_ ?_ (fun j hj a h1 h2 => ?_) (fun j hj a h1 h2 h3 => ?_) (fun j hj P hP hp90 hp => ?_) ?_ (fun a h1 h2 => ?_) hd1 hd2 hd3 (fun k hk => ?_) (fun k h1 h2 => ?_) A2 (fun k h1 h2 => ms k h1 h2) hnew, fun k hk => ?_, fun k hk => hd3 k (by omega), ?_⟩
              · rw [Fq_sc A19 0 (by decide), hm0, mI_sI, if_pos rfl, z_up, if_pos rfl]
              · rw [CC]; have := CS1.1; omega
              · rw [SS]; have := CS1.2; omega
              · rw [mr 37 (by decide) (by decide)]; exact y1
              · rw [RR]; exact y2
              · rw [NN]; exact y4
              · rw [KK]; exact y5
              · rw [LL]; exact y6
              · rw [LL]; exact y7
              · rw [RR]; exact y8 j hj
              · rw [RR]; exact y9
              · exact y10
              · have q := lrl j hj
                exact ⟨R5 a (by omega) (by omega) (hEl' j hj a h1 h2), K5 a (by omega)⟩
              · have q := lrl j hj
                rw [mrH a (by omega)]; exact i5 a (by omega) (by omega)
              · have q := lrl j hj
                exact LotP_pt hP (by rw [mrH _ (by omega)]; exact i5 _ (by omega) (by omega)) (fun k _ _ => by rw [r103]) hp
              · rw [NN]; omega
              · exact mrL a (by omega) h2 (by omega) (by simp only [List.mem_cons, List.not_mem_nil, or_false]; omega)
              · have := A18 k hk
                rw [m0row 74 (by decide) (by decide)] at this
                exact this
              · rw [r103]; exact hzr.2 k (by omega) h2
              · exact hd2 68 (by decide) k (by omega)
              · refine ⟨fun a h1 h2 => R5 a (by omega) h2 (by omega), fun a h1 => K5 a (by omega), by rw [NN]; omega, ⟨by rw [NN]; omega, by rw [NN]; omega⟩, fun a h1 h2 h3 => mrL a (by omega) (fun e => h3 (by rw [e]; decide)) h2 (fun h => h3 (by simp only [List.mem_cons, List.not_mem_nil, or_false] at h ⊢; omega)), fun k hk => ms k (fun e => hk (by rw [e]; decide)) (fun e => hk (by rw [e]; decide))⟩
            · have hN40 : N = 40 := by omega
              subst hN40
              have l1 : mI μ 37 2 = 40 := l1
              have l2 : mI μ 65 62 = 40 := l2
              have q : ¬ (40 : Int32) < 40 := by decide
              have e2' : ¬ ¬ wish v4 v5 v6 := fun h => h e2
              simp only [bd_some, p_let_eq, p_ok, mI_sI, mR_sI, mK_sI, mN_sI, mL_sI, mI_sG, mR_sG, mK_sG, mN_sG, mL_sG, mI_sJ, mR_sJ, mK_sJ, mN_sJ, mL_sJ, z_up, ↓reduceIte, and_self, true_and, and_true, false_and, and_false, not_true_eq_false, not_false_eq_true, Nat.reduceEqDiff, i_10, i_20, i_30, w_in, w_need1, w_need0, m_in, m_thr0, m_thr1, tM, aM, nI_1, nI_pred, reduceIte, wp_some, eq_self, bI_T, bI_F, F_L_lot, F_X12_lot, w_ix, w_wish, w_room, n1, c1, d1, e1, e2t, e3, o37, l1, q, F_X13_lot, F_X13_lot_c26, F_X13_lot_c73, F_X13_lot_c95, F_X13_lot_c102, m_noCloth, m_noKind, m_noWish, n2, l2, c2, d2, bI_neg e2', s_o0 hS, s_r0_0 hS, s_r0_1 hS, s_r0_10 hS, s_r0_11 hS, s_r0_12 hS, s_r0_14 hS, s_r0_16 hS, s_r0_19 hS, s_r0_7 hS, s_r0_8 hS, s_r0_9 hS, s_o112 hS]
              exact ⟨(thr 3 (by decide)).1, (thr 3 (by decide)).2.1, fun _ _ => trivial, fun _ _ => trivial, (thr 3 (by decide)).2.2⟩
          · have e2' : ¬ ¬ wish v4 v5 v6 := fun h => h e2
            simp only [bd_some, p_let_eq, p_ok, mI_sI, mR_sI, mK_sI, mN_sI, mL_sI, mI_sG, mR_sG, mK_sG, mN_sG, mL_sG, mI_sJ, mR_sJ, mK_sJ, mN_sJ, mL_sJ, z_up, ↓reduceIte, and_self, true_and, and_true, false_and, and_false, not_true_eq_false, not_false_eq_true, Nat.reduceEqDiff, i_10, i_20, i_30, w_in, w_need1, w_need0, m_in, m_thr0, m_thr1, tM, aM, nI_1, nI_pred, reduceIte, wp_some, eq_self, bI_T, bI_F, F_L_lot, F_X12_lot, w_ix, w_wish, n1, c1, d1, e1, e2t, e3, F_X13_lot, F_X13_lot_c26, F_X13_lot_c68, F_X13_lot_c73, F_X13_lot_c102, m_noCloth, m_noKind, m_noWish, n2, c2, d2, bI_neg e2', s_o0 hS, s_r0_0 hS, s_r0_1 hS, s_r0_10 hS, s_r0_11 hS, s_r0_12 hS, s_r0_14 hS, s_r0_16 hS, s_r0_19 hS, s_r0_7 hS, s_r0_8 hS, s_r0_9 hS, s_o112 hS]
            exact ⟨(thr 2 (by decide)).1, (thr 2 (by decide)).2.1, fun _ _ => trivial, fun _ _ => trivial, (thr 2 (by decide)).2.2⟩
        · simp only [bd_some, p_let_eq, p_ok, mI_sI, mR_sI, mK_sI, mN_sI, mL_sI, mI_sG, mR_sG, mK_sG, mN_sG, mL_sG, mI_sJ, mR_sJ, mK_sJ, mN_sJ, mL_sJ, z_up, ↓reduceIte, and_self, true_and, and_true, false_and, and_false, not_true_eq_false, not_false_eq_true, Nat.reduceEqDiff, i_10, i_20, i_30, w_in, w_need1, w_need0, m_in, m_thr0, m_thr1, tM, aM, nI_1, nI_pred, reduceIte, wp_some, eq_self, bI_T, bI_F, F_L_lot, F_X12_lot, w_ix, w_wish, n1, c1, d1, e1, e2, F_X13_lot, F_X13_lot_c26, F_X13_lot_c68, F_X13_lot_c73, F_X13_lot_c102, m_noCloth, m_noKind, m_noWish, n2, c2, d2, bI_pos e2, s_o0 hS, s_r0_0 hS, s_r0_1 hS, s_r0_10 hS, s_r0_11 hS, s_r0_12 hS, s_r0_14 hS, s_r0_16 hS, s_r0_19 hS, s_r0_7 hS, s_r0_8 hS, s_r0_9 hS, s_o112 hS]
          exact ⟨(thr 2 (by decide)).1, (thr 2 (by decide)).2.1, fun _ _ => trivial, fun _ _ => trivial, (thr 2 (by decide)).2.2⟩
      · simp only [bd_some, p_let_eq, p_ok, mI_sI, mR_sI, mK_sI, mN_sI, mL_sI, mI_sG, mR_sG, mK_sG, mN_sG, mL_sG, mI_sJ, mR_sJ, mK_sJ, mN_sJ, mL_sJ, z_up, ↓reduceIte, and_self, true_and, and_true, false_and, and_false, not_true_eq_false, not_false_eq_true, Nat.reduceEqDiff, i_10, i_20, i_30, w_in, w_need1, w_need0, m_in, m_thr0, m_thr1, tM, aM, nI_1, nI_pred, reduceIte, wp_some, eq_self, bI_T, bI_F, F_L_lot, F_X12_lot, w_ix, n1, c1, d1, e1, F_X13_lot, F_X13_lot_c26, F_X13_lot_c68, F_X13_lot_c73, F_X13_lot_c102, m_noCloth, m_noKind, n2, c2, d2, s_o0 hS, s_r0_0 hS, s_r0_1 hS, s_r0_10 hS, s_r0_11 hS, s_r0_12 hS, s_r0_14 hS, s_r0_16 hS, s_r0_19 hS, s_r0_7 hS, s_r0_8 hS, s_r0_9 hS, s_o112 hS]
        exact ⟨(thr 2 (by decide)).1, (thr 2 (by decide)).2.1, fun _ _ => trivial, fun _ _ => trivial, (thr 2 (by decide)).2.2⟩
