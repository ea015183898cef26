theorem A_deliver {μ : p_M} (hS : Sh μ) (hR : RLots μ) (hRC : RCloth μ) (hRH : RHouse μ) (hRM : RMisc μ) (v1 v2 : Int32) : wp (F_L_deliver 0 v1 v2 112 μ) fun k μ1 => wp (F_X13_deliver v1 v2 μ1) fun b μ2 => Post k b μ μ2 ∧ RLots μ2 ∧ RMisc μ2 ∧ (∀ j, j ≠ 17 → j ≠ 18 → mI μ2 0 j = mI μ 0 j) ∧ Fl pC [0, 73, 74, 75] μ μ2 := by
  have hR0 := hR
  obtain ⟨N, K, M, C, E, lr, hLs, hC, hK, hLot, hM, hZ, hzr, hme, hld⟩ := hR
  obtain ⟨n0, hn6, n1, n2, -⟩ := hRC
  have hRM0 := hRM
  obtain ⟨⟨d, hd, t1, t2⟩, t3, t4⟩ := hRM
  have thr : ∀ x : Int32, ¬ x = 0 → Post x 0 μ (sI (sI (sG μ 1 6) 65 0 0) 65 0 x) ∧ RLots (sI (sI (sG μ 1 6) 65 0 0) 65 0 x) ∧ RMisc (sI (sI (sG μ 1 6) 65 0 0) 65 0 x) ∧ Fl pC [0, 73, 74, 75] μ (sI (sI (sG μ 1 6) 65 0 0) 65 0 x) := fun x hx => ⟨thr_post hx, RLots_fr0 thr_fr (by decide) (by decide) (by decide) (by decide) hR0, hRM0, Fl_of hS (Fr_mono thr_fr (by decide) (by decide))⟩
  rcases ix3 v1 (nI n0) (nI n0 - 1) n0 (by omega) rfl rfl with ⟨c1, c2⟩ | ⟨cl, hcl, rfl, c1, c2, c3, c4⟩
  · simp only [bd_some, p_let_eq, p_ok, mI_sI, mR_sI, mK_sI, mN_sI, mL_sI, mI_sG, mR_sG, mK_sG, mN_sG, mL_sG, mI_sJ, mR_sJ, mK_sJ, mN_sJ, mL_sJ, z_up, ↓reduceIte, and_self, true_and, and_true, false_and, and_false, not_true_eq_false, not_false_eq_true, Nat.reduceEqDiff, i_10, i_20, i_30, w_in, w_need1, w_need0, m_in, m_thr0, m_thr1, tM, aM, nI_1, nI_pred, reduceIte, wp_some, eq_self, bI_T, bI_F, F_L_deliver, F_X12_deliver, w_ix, n1, c1, F_X13_deliver, F_X13_deliver_c41, m_noCloth, n2, c2, s_o0 hS, s_r0_0 hS, s_r0_1 hS, s_r0_10 hS, s_r0_11 hS, s_r0_12 hS, s_r0_14 hS, s_r0_16 hS, s_r0_19 hS, s_r0_7 hS, s_r0_8 hS, s_r0_9 hS, s_o112 hS]
    exact ⟨(thr 1 (by decide)).1, (thr 1 (by decide)).2.1, (thr 1 (by decide)).2.2.1, fun _ _ _ => trivial, (thr 1 (by decide)).2.2.2⟩
  · by_cases cw : 1 ≤ v2 ∧ v2 ≤ 20
    · obtain ⟨w, hw1, hw2, rfl⟩ := rg3 v2 1 20 1 20 rfl rfl (by decide) (by decide) cw
      obtain ⟨n, st, bd, O, P, L, c3, hn, ⟨hs1, hs2⟩, hbd, est, hLL, hO, hmo, hLd, hcls, hokC, h44, h113, hmod⟩ := b_find hS hLs hLot hme hRH t1 t2 (nI cl)
      have hT : ∀ i, i < n → lof (O i) < 40 ∧ pof (O i) < 60 ∧ O i < 2 ^ 20 := fun i hi => ⟨by have := (hO i hi).2.1; have := hLs.2.2.1; omega, by have h1 := (hO i hi).2; have := (hLL _ h1.1).2.2.2.1; omega, (hO i hi).1⟩
      have hLn : L.length ≤ 250 := by rw [hLd]; have := pkB_le (S := fun i => sha (O i)) (n := n) (bd := bd) hs1 (n + 1) 0; omega
      have h113r : ∀ j, j < N → 113 ≤ lr j := fun j hj => by obtain ⟨⟨nb, S⟩, -⟩ := hLL j hj; exact S.1
      have Kq : mK c3 = mK μ := by show c3.2.2.2.1 = μ.2.2.2.1; rw [hokC.1]
      have Nq : mN c3 = mN μ := by show c3.2.2.2.2.2.1 = μ.2.2.2.2.2.1; rw [hokC.1]
      have Rq : mR c3 = mR μ := by show c3.2.1 = μ.2.1; rw [hokC.1]
      have Lq : mL c3 = mL μ := by show c3.2.2.2.2.1 = μ.2.2.2.2.1; rw [hokC.1]
      have hSc : Sh c3 := by
        unfold Sh ShM at *
        rw [Kq, Nq, Rq, Lq]; exact hS
      by_cases cL : w ≤ L.length
      · have cL' : nI w ≤ nI L.length := nI_le cL (by omega)
        have hLb : ∀ b, b ∈ L → b + st ≤ n := fun b hb => by rw [hLd] at hb; exact pkB_in _ _ _ hb
        obtain ⟨D, hD⟩ : ∃ D, D = dcs O st (L.take w) := ⟨_, rfl⟩
        have hDin : ∀ e, e ∈ D → lof e < N ∧ pof e < P (lof e) := fun e he => by
          rw [hD] at he
          obtain ⟨b, k, b1, b2, b3, b4⟩ := dcs_in _ _ he
          have := hLb b (List.mem_of_mem_take b1)
          rw [b4]; exact (hO k (by omega)).2
        obtain ⟨T0, hT0⟩ : ∃ T0, T0 = D.foldl (ltf (mI μ 95) d) 0 := ⟨_, rfl⟩
        have q34 := c_34 (w := w) (L := L) hS hRH est hLs (fun j hj => by obtain ⟨q1, q2, q3, q4, q5, -⟩ := hLL j hj; exact ⟨q1, q2, q4, q5⟩) t1 hn hs2 hO hw2 cL hLb w 0 p_fu c3 0 (by omega) (show w < 100000 by omega) hokC h44
        rw [dcn_t w L cL, ← hD, ← hT0] at q34
        obtain ⟨c4', hc4⟩ : ∃ c4', c4' = sI (sI (D.foldl (dC1 lr) c3) 0 17 (mI μ 0 17 + nI w)) 0 18 (mI μ 0 18 + T0) := ⟨_, rfl⟩
        rw [← hc4] at q34
        have q34 : F_X12_deliver_c34 p_fu 0 (nI w) 0 0 c3 = some (0, T0, c4') := q34
        have hokD := okC_f (O := O) (n := n) (μ := μ) hLs.2.2.2.2.1 h113r D c3 (fun e he => (hDin e he).1) hokC
        have e42 : c4'.2 = μ.2 := by rw [hc4]; exact hokD.1
        have r4 : ∀ a, a ≠ 0 → mI c4' a = mI (D.foldl (dC1 lr) c3) a := fun a ha => by rw [hc4, mI_sI, if_neg ha, mI_sI, if_neg ha]
        have r40 : ∀ k, mI c4' 0 k = if k = 18 then mI μ 0 18 + T0 else if k = 17 then mI μ 0 17 + nI w else mI μ 0 k := fun k => by
          rw [hc4, mI_sI, if_pos rfl, z_up, mI_sI, if_pos rfl, z_up, hokD.2.1 0 (by decide) (by decide)]
        obtain ⟨m0, hm0⟩ : ∃ m0, m0 = sI (sJ c4' 112 (Int32.toNatClampNeg 0) T0.toInt64) 65 0 0 := ⟨_, rfl⟩
        have hSm : SmR μ m0 := by
          rw [hm0]
          refine ⟨fun a ha => ?_, fun k hk => ?_⟩
          · rw [mI_sI, if_neg (by simp only [List.mem_cons, List.not_mem_nil, or_false] at ha; omega)]
            show mI c4' a = _
            rw [r4 a (by simp only [List.mem_cons, List.not_mem_nil, or_false] at ha; omega)]
            exact hokD.2.1 a (by simp only [List.mem_cons, List.not_mem_nil, or_false] at ha; omega) (by simp only [List.mem_cons, List.not_mem_nil, or_false] at ha ⊢; omega)
          · rw [mI_sI, if_pos rfl, z_up, if_neg (by simp only [List.mem_cons, List.not_mem_nil, or_false] at hk; omega)]
            show mI c4' 65 k = _
            rw [r4 65 (by decide), hokD.2.1 65 (by decide) (by decide)]
        obtain ⟨m1, q1, q2, q3⟩ := hmod m0 hSm
        have hpk0 := m_packs (n := n) (st := st) (bd := bd) (d := d) (w := 0) (T := O) hn hs1 hs2 hbd (by decide) hT hmo (n + 1) 0 0 p_fu m1 (by omega) (by omega) (show n + 1 < 100000 by omega) (Nat.le_refl _) q3
        rw [← hLd, Nat.zero_add, Nat.sub_zero, List.take_zero] at hpk0
        have hpk0 : F_X13_packsOf 0 m1 = some (nI L.length, m1) := hpk0
        have hpk := m_packs (n := n) (st := st) (bd := bd) (d := d) (w := w) (T := O) hn hs1 hs2 hbd hw2 hT hmo (n + 1) 0 0 p_fu m1 (by omega) (by omega) (show n + 1 < 100000 by omega) (Nat.le_refl _) q3
        rw [← hLd, Nat.zero_add, Nat.sub_zero, ← hD] at hpk
        obtain ⟨m3, hm3⟩ : ∃ m3, m3 = D.foldl (dM1 d) m1 := ⟨_, rfl⟩
        rw [← hm3] at hpk
        have hpk : F_X13_packsOf (nI w) m1 = some (nI L.length, m3) := hpk
        have f3 : Fq [103] [75] m1 m3 := by rw [hm3]; exact dM_fr D m1
        have e95 : mI m1 95 = mI μ 95 := by rw [Fq_row q2 95 (by decide)]; exact hSm.1 95 (by decide)
        have s1 : ∀ k, k ≠ 0 → k ≠ 73 → mI m1 65 k = mI μ 65 k := fun k h1 h2 => by
          rw [q2.2.2 k (by simp only [List.mem_cons, List.not_mem_nil, or_false]; exact h2), hm0, mI_sI, if_pos rfl, z_up, if_neg h1]
          show mI c4' 65 k = _
          rw [r4 65 (by decide), hokD.2.1 65 (by decide) (by decide)]
        have e75 : mI m3 65 75 = mI μ 65 75 + T0 := by
          rw [hm3, ltf_M, e95, s1 75 (by decide) (by decide), hT0, ← ltf_add, Int32.add_zero]
        have e74 : mI m3 65 74 = mI μ 65 74 := by rw [Fq_sc f3 74 (by decide)]; exact s1 74 (by decide) (by decide)
        obtain ⟨m4, hm4⟩ : ∃ m4, m4 = sI m3 65 74 (mI μ 65 74 + nI w) := ⟨_, rfl⟩
        have e2 : m4.2 = (sJ c4' 112 (Int32.toNatClampNeg 0) T0.toInt64).2 := by rw [hm4]; show m3.2 = _; rw [f3.1, q2.1, hm0]; rfl
        have RR : mR m4 = mR μ := by show m4.2.1 = μ.2.1; rw [e2]; show c4'.2.1 = _; rw [e42]
        have KK : mK m4 = mK μ := by show m4.2.2.2.1 = μ.2.2.2.1; rw [e2]; show c4'.2.2.2.1 = _; rw [e42]
        have LL : mL m4 = mL μ := by show m4.2.2.2.2.1 = μ.2.2.2.2.1; rw [e2]; show c4'.2.2.2.2.1 = _; rw [e42]
        have NN : mN m4 = mN μ := by show m4.2.2.2.2.2.1 = μ.2.2.2.2.2.1; rw [e2]; show c4'.2.2.2.2.2.1 = _; rw [e42]
        have CC : mC m4 = mC μ := by show m4.2.2.2.2.2.2.1 = μ.2.2.2.2.2.2.1; rw [e2]; show c4'.2.2.2.2.2.2.1 = _; rw [e42]
        have SS : mS m4 = mS μ := by show m4.2.2.2.2.2.2.2 = μ.2.2.2.2.2.2.2; rw [e2]; show c4'.2.2.2.2.2.2.2 = _; rw [e42]
        have JJ : mJ m4 112 0 = T0.toInt64 := by
          show m4.2.2.1 112 0 = _
          rw [e2]
          exact mJ_sJ (μ := c4') (a := 112) (k := 0) _
        have rw1 : ∀ a, a ≠ 65 → a ≠ 103 → a ≠ 108 → a ≠ 109 → mI m4 a = mI c4' a := fun a h1 h2 h3 h4 => by
          rw [hm4, mI_sI, if_neg h1, f3.2.1 a h1 (by simp only [List.mem_cons, List.not_mem_nil, or_false]; omega), q2.2.1 a h1 (by simp only [List.mem_cons, List.not_mem_nil, or_false]; omega), hm0, mI_sI, if_neg h1]; rfl
        have rwL : ∀ a, a < 113 → a ≠ 0 → a ≠ 65 → a ≠ 103 → a ≠ 108 → a ≠ 109 → a ∉ [38, 42, 43, 44, 45] → mI m4 a = mI μ a := fun a h0 h1 h2 h3 h4 h5 h6 => by
          rw [rw1 a h2 h3 h4 h5, r4 a h1]; exact hokD.2.1 a h0 h6
        have r0 : ∀ k, mI m4 0 k = if k = 18 then mI μ 0 18 + T0 else if k = 17 then mI μ 0 17 + nI w else mI μ 0 k := fun k => by
          rw [rw1 0 (by decide) (by decide) (by decide) (by decide)]; exact r40 k
        have sc : ∀ k, k ≠ 0 → k ≠ 73 → k ≠ 74 → k ≠ 75 → mI m4 65 k = mI μ 65 k := fun k h1 h2 h3 h4 => by
          rw [hm4, mI_sI, if_pos rfl, z_up, if_neg h3, f3.2.2 k (by simp only [List.mem_cons, List.not_mem_nil, or_false]; exact h4)]
          exact s1 k h1 h2
        have g14 : mI m0 65 14 = nI n0 := by
          rw [hm0, mI_sI, if_pos rfl, z_up, if_neg (by decide)]
          show mI c4' 65 14 = _
          rw [r4 65 (by decide), hokD.2.1 65 (by decide) (by decide)]; exact n2
        have hdc : F_X13_deliver_c34 (nI cl) (nI w) 0 m0 = some (T0, m4) := by
          unfold F_X13_deliver_c34
          rw [m_thr0, bd_s2]
          simp only [↓reduceIte]
          rw [q1, bd_s2, hpk0, bd_s2]
          simp only [cL', ↓reduceIte]
          rw [hpk, bd_s2]
          simp only [tM, mI_sI, z_up, Nat.reduceEqDiff, ↓reduceIte, e74, e75]
          rw [s1 75 (by decide) (by decide), i_acs, ← hm4]
        have hmodl : F_X13_deliver (nI cl) (nI w) (sJ c4' 112 (Int32.toNatClampNeg 0) T0.toInt64) = some (T0, m4) := by
          unfold F_X13_deliver tM
          rw [← hm0, m_noCloth, bd_s2, g14, bI_neg (fun h => h c2), m_thr0, bd_s2]
          simp only [↓reduceIte, not_true_eq_false]
          rw [m_in, bd_s2, bI_pos cw]
          simp only [i_10, not_false_eq_true, ↓reduceIte]
          exact hdc
        have hclsl : F_X12_deliver 0 (nI cl) (nI w) μ = some (0, T0, c4') := by
          have q12 : F_X12_need 1 μ = some (0, 0, μ) := rfl
          unfold F_X12_deliver
          simp only [bd_s2, p_ok, s_o0 hS, s_r0_0 hS, s_r0_1 hS, s_r0_10 hS, s_r0_11 hS, s_r0_12 hS, s_r0_14 hS, s_r0_16 hS, s_r0_19 hS, s_r0_7 hS, s_r0_8 hS, s_r0_9 hS, w_ix, n1, c1, w_in, bI_pos cw, q12, hcls, cL', q34, and_self, ↓reduceIte]
        have hS4 : Sh c4' := by
          have k1 : mK c4' = mK μ := by show c4'.2.2.2.1 = μ.2.2.2.1; rw [e42]
          have k2 : mN c4' = mN μ := by show c4'.2.2.2.2.2.1 = μ.2.2.2.2.2.1; rw [e42]
          have k3 : mR c4' = mR μ := by show c4'.2.1 = μ.2.1; rw [e42]
          have k4 : mL c4' = mL μ := by show c4'.2.2.2.2.1 = μ.2.2.2.2.1; rw [e42]
          unfold Sh ShM at *
          rw [k1, k2, k3, k4]; exact hS
        have o112 := s_o112 hS4
        simp only [bd_some, p_let_eq, p_ok, mI_sI, mR_sI, mK_sI, mN_sI, mL_sI, mI_sG, mR_sG, mK_sG, mN_sG, mL_sG, mI_sJ, mR_sJ, mK_sJ, mN_sJ, mL_sJ, z_up, ↓reduceIte, and_self, true_and, and_true, false_and, and_false, not_true_eq_false, not_false_eq_true, Nat.reduceEqDiff, i_10, i_20, i_30, w_in, w_need1, w_need0, m_in, m_thr0, m_thr1, tM, aM, nI_1, nI_pred, reduceIte, wp_some, eq_self, bI_T, bI_F, F_L_deliver, s_o0 hS, s_r0_0 hS, s_r0_1 hS, s_r0_10 hS, s_r0_11 hS, s_r0_12 hS, s_r0_14 hS, s_r0_16 hS, s_r0_19 hS, s_r0_7 hS, s_r0_8 hS, s_r0_9 hS, hclsl, o112]
        rw [hmodl]
        simp only [wp_some]
        have hplc := plc_D (d := d) (lr := lr) (P := P) hLs.2.2.2.2.1 (fun j hj => (hLL j hj).2.2.2.1) D c3 m1 hDin (fun j hj p hp => by
          have := h113r j hj
          have e103 : mI m1 103 = mI μ 103 := by rw [Fq_row q2 103 (by decide)]; exact hSm.1 103 (by decide)
          rw [h113 _ (by omega), e103]
          exact (hLL j hj).2.2.2.2.2 p hp)
        rw [← hm3] at hplc
        have e103 : mI m4 103 = mI m3 103 := by rw [hm4, mI_sI, if_neg (by decide)]
        refine ⟨⟨?_, fun _ => JJ, Cn_eq CC SS⟩, plc_RL hLs hC hK hLot hM hZ hzr hme hld RR KK LL NN ?_ (fun a h1 h2 => ?_) (fun k hk => ?_) (fun a h1 h2 h3 => ?_) (fun k hk => ?_) (fun j hj a h1 h2 h3 => ?_) (fun j hj P' hP' h90 => ?_) (fun k hk => ?_), ⟨⟨d, hd, ?_, ?_⟩, ?_, ?_⟩, fun j h1 h2 => ?_, ?_⟩
        · rw [hm4, mI_sI, if_pos rfl, z_up, if_neg (by decide), f3.2.2 0 (by simp), q2.2.2 0 (by simp), hm0, mI_sI, if_pos rfl, z_up, if_pos rfl]
        · rw [r0]; rfl
        · exact rwL a (by omega) (fun e => h2 (by rw [e]; decide)) (by omega) (by omega) (by omega) (by omega) (fun h => h2 (List.mem_cons_of_mem _ h))
        · rw [rw1 38 (by decide) (by decide) (by decide) (by decide), r4 38 (by decide)]; exact hokD.2.2.2.2.1 k hk
        · exact rwL a (by omega) (by omega) (by omega) h3 (by omega) (by omega) (by simp only [List.mem_cons, List.not_mem_nil, or_false]; omega)
        · exact sc k (fun e => hk (by rw [e]; decide)) (fun e => hk (by rw [e]; decide)) (fun e => hk (by rw [e]; decide)) (fun e => hk (by rw [e]; decide))
        · have := h113r j hj
          rw [rw1 a (by omega) (by omega) (by omega) (by omega), r4 a (by omega)]; exact hokD.2.2.1 j hj a h1 h2 h3
        · have := h113r j hj
          have eP : P' = P j := (nI_eq (show P' < 2 ^ 31 by omega) (show P j < 2 ^ 31 by have := (hLL j hj).2.2.2.1; omega)).mp (h90.symm.trans (hLL j hj).2.2.1)
          subst eP
          intro p hp
          rw [rw1 _ (by omega) (by omega) (by omega) (by omega), r4 _ (by omega), e103]
          exact hplc.1 j hj p hp
        · rw [e103, hplc.2 k hk, Fq_row q2 103 (by decide), hSm.1 103 (by decide)]
        · rw [r0]; exact t1
        · rw [sc 42 (by decide) (by decide) (by decide) (by decide)]; exact t2
        · have x1 : mI m4 65 74 = mI μ 65 74 + nI w := by rw [hm4, mI_sI, if_pos rfl, z_up, if_pos rfl]
          rw [x1, r0]
          show mI μ 0 17 + nI w = _
          rw [t3]
        · have x1 : mI m4 65 75 = mI μ 65 75 + T0 := by rw [hm4, mI_sI, if_pos rfl, z_up, if_neg (by decide), e75]
          rw [x1, r0]
          show mI μ 0 18 + T0 = _
          rw [t4]
        · rw [r0, if_neg h2, if_neg h1]
        · refine ⟨fun a _ _ => by rw [RR], fun a _ => ⟨by rw [KK], by rw [LL]⟩, by rw [NN]; exact Nat.le_refl _, ⟨by rw [NN]; exact hS.2.2.1, by rw [NN]; exact Nat.le_add_right _ _⟩, fun a h1 h2 h3 => rwL a h1 (fun e => h3 (by rw [e]; decide)) h2 (fun e => h3 (by rw [e]; decide)) (fun e => h3 (by rw [e]; decide)) (fun e => h3 (by rw [e]; decide)) (fun h => h3 (by simp only [List.mem_cons, List.not_mem_nil, or_false] at h ⊢; omega)), fun k hk => sc k (fun e => hk (by rw [e]; decide)) (fun e => hk (by rw [e]; decide)) (fun e => hk (by rw [e]; decide)) (fun e => hk (by rw [e]; decide))⟩
      · have cL' : ¬ nI w ≤ nI L.length := nI_ge (by omega) (by omega)
        obtain ⟨m0, hm0⟩ : ∃ m0, m0 = sI (sJ c3 112 (Int32.toNatClampNeg 0) (Int32.toInt64 (-1))) 65 0 0 := ⟨_, rfl⟩
        obtain ⟨m1, q1, q2, q3⟩ := hmod m0 (by rw [hm0]; exact SmR_c hokC)
        have hpk := m_packs (n := n) (st := st) (bd := bd) (d := d) (w := 0) (T := O) hn hs1 hs2 hbd (by decide) hT hmo (n + 1) 0 0 p_fu m1 (by omega) (by omega) (show n + 1 < 100000 by omega) (Nat.le_refl _) q3
        rw [← hLd, Nat.zero_add, Nat.sub_zero, List.take_zero] at hpk
        have hpk : F_X13_packsOf 0 m1 = some (nI L.length, m1) := hpk
        have o112 := s_o112 hSc
        have e2 : m1.2 = (sJ c3 112 (Int32.toNatClampNeg 0) (Int32.toInt64 (-1))).2 := by rw [q2.1, hm0]; rfl
        have RR : mR m1 = mR μ := by rw [← Rq]; show m1.2.1 = c3.2.1; rw [e2]; rfl
        have KK : mK m1 = mK μ := by rw [← Kq]; show m1.2.2.2.1 = c3.2.2.2.1; rw [e2]; rfl
        have LL : mL m1 = mL μ := by rw [← Lq]; show m1.2.2.2.2.1 = c3.2.2.2.2.1; rw [e2]; rfl
        have NN : mN m1 = mN μ := by rw [← Nq]; show m1.2.2.2.2.2.1 = c3.2.2.2.2.2.1; rw [e2]; rfl
        have CC : mC m1 = mC μ := by show m1.2.2.2.2.2.2.1 = μ.2.2.2.2.2.2.1; rw [e2]; show c3.2.2.2.2.2.2.1 = _; rw [hokC.1]
        have SS : mS m1 = mS μ := by show m1.2.2.2.2.2.2.2 = μ.2.2.2.2.2.2.2; rw [e2]; show c3.2.2.2.2.2.2.2 = _; rw [hokC.1]
        have JJ : mJ m1 112 0 = Int32.toInt64 (-1) := by
          show m1.2.2.1 112 0 = _
          rw [e2]
          exact mJ_sJ (μ := c3) (a := 112) (k := 0) _
        have rw1 : ∀ a, a ≠ 65 → a ≠ 108 → a ≠ 109 → mI m1 a = mI c3 a := fun a h1 h2 h3 => by
          rw [q2.2.1 a h1 (by simp only [List.mem_cons, List.not_mem_nil, or_false]; omega), hm0, mI_sI, if_neg h1]; rfl
        have rwL : ∀ a, a < 113 → a ≠ 65 → a ≠ 108 → a ≠ 109 → a ∉ [38, 42, 43, 44, 45] → mI m1 a = mI μ a := fun a h0 h1 h2 h3 h4 => (rw1 a h1 h2 h3).trans (hokC.2.1 a h0 h4)
        have sc : ∀ k, k ≠ 0 → k ≠ 73 → mI m1 65 k = mI μ 65 k := fun k h1 h2 => by
          rw [q2.2.2 k (by simp only [List.mem_cons, List.not_mem_nil, or_false]; exact h2), hm0, mI_sI, if_pos rfl, z_up, if_neg h1]
          show mI c3 65 k = _
          rw [hokC.2.1 65 (by decide) (by decide)]
        have g14 : mI m0 65 14 = nI n0 := by
          rw [hm0, mI_sI, if_pos rfl, z_up, if_neg (by decide)]
          show mI c3 65 14 = _
          rw [hokC.2.1 65 (by decide) (by decide)]; exact n2
        have hdc : F_X13_deliver_c34 (nI cl) (nI w) 0 m0 = some (-1, m1) := by
          unfold F_X13_deliver_c34
          rw [m_thr0, bd_s2]
          simp only [↓reduceIte]
          rw [q1, bd_s2, hpk, bd_s2]
          simp only [cL', ↓reduceIte]
        have hmodl : F_X13_deliver (nI cl) (nI w) (sJ c3 112 (Int32.toNatClampNeg 0) (Int32.toInt64 (-1))) = some (-1, m1) := by
          unfold F_X13_deliver tM
          rw [← hm0, m_noCloth, bd_s2, g14, bI_neg (fun h => h c2), m_thr0, bd_s2]
          simp only [↓reduceIte, not_true_eq_false]
          rw [m_in, bd_s2, bI_pos cw]
          simp only [i_10, not_false_eq_true, ↓reduceIte]
          exact hdc
        have hclsl : F_X12_deliver 0 (nI cl) (nI w) μ = some (0, -1, c3) := by
          have q12 : F_X12_need 1 μ = some (0, 0, μ) := rfl
          unfold F_X12_deliver
          simp only [bd_s2, p_ok, s_o0 hS, s_r0_0 hS, s_r0_1 hS, s_r0_10 hS, s_r0_11 hS, s_r0_12 hS, s_r0_14 hS, s_r0_16 hS, s_r0_19 hS, s_r0_7 hS, s_r0_8 hS, s_r0_9 hS, w_ix, n1, c1, w_in, bI_pos cw, q12, hcls, cL', and_self, ↓reduceIte]
        simp only [bd_some, p_let_eq, p_ok, mI_sI, mR_sI, mK_sI, mN_sI, mL_sI, mI_sG, mR_sG, mK_sG, mN_sG, mL_sG, mI_sJ, mR_sJ, mK_sJ, mN_sJ, mL_sJ, z_up, ↓reduceIte, and_self, true_and, and_true, false_and, and_false, not_true_eq_false, not_false_eq_true, Nat.reduceEqDiff, i_10, i_20, i_30, w_in, w_need1, w_need0, m_in, m_thr0, m_thr1, tM, aM, nI_1, nI_pred, reduceIte, wp_some, eq_self, bI_T, bI_F, F_L_deliver, s_o0 hS, s_r0_0 hS, s_r0_1 hS, s_r0_10 hS, s_r0_11 hS, s_r0_12 hS, s_r0_14 hS, s_r0_16 hS, s_r0_19 hS, s_r0_7 hS, s_r0_8 hS, s_r0_9 hS, hclsl, o112]
        rw [hmodl]
        simp only [wp_some]
        refine ⟨⟨?_, fun _ => JJ, Cn_eq CC SS⟩, plc_RL hLs hC hK hLot hM hZ hzr hme hld RR KK LL NN ?_ (fun a h1 h2 => ?_) (fun k hk => ?_) (fun a h1 h2 h3 => ?_) (fun k hk => ?_) (fun j hj a h1 h2 h3 => ?_) (fun j hj P' hP' h90 => ?_) (fun k hk => ?_), ⟨⟨d, hd, ?_, ?_⟩, ?_, ?_⟩, fun j _ _ => ?_, ?_⟩
        · rw [q2.2.2 0 (by simp), hm0, mI_sI, if_pos rfl, z_up, if_pos rfl]
        · rw [rwL 0 (by decide) (by decide) (by decide) (by decide) (by decide)]
        · exact rwL a (by omega) (by omega) (by omega) (by omega) (fun h => h2 (List.mem_cons_of_mem _ h))
        · rw [rw1 38 (by decide) (by decide) (by decide)]; exact hokC.2.2.2.2.1 k hk
        · exact rwL a (by omega) (by omega) (by omega) (by omega) (by simp only [List.mem_cons, List.not_mem_nil, or_false]; omega)
        · exact sc k (fun e => hk (by rw [e]; decide)) (fun e => hk (by rw [e]; decide))
        · have := h113r j hj
          rw [rw1 a (by omega) (by omega) (by omega)]; exact h113 a (by omega)
        · obtain ⟨P2, nb2, S2, -, G2, -, -, Pz2, -⟩ := hLot j hj
          have : P2 = P' := (nI_eq (show P2 < 2 ^ 31 by have := G2.2.2.2.1; omega) (show P' < 2 ^ 31 by omega)).mp (G2.2.1.symm.trans h90)
          subst this
          have := h113r j hj
          exact LotP_pt hP' (by rw [rw1 _ (by omega) (by omega) (by omega)]; exact h113 _ (by omega)) (fun k _ _ => by rw [rwL 103 (by decide) (by decide) (by decide) (by decide) (by decide)]) Pz2
        · rw [rwL 103 (by decide) (by decide) (by decide) (by decide) (by decide)]
        · rw [rwL 0 (by decide) (by decide) (by decide) (by decide) (by decide)]; exact t1
        · rw [sc 42 (by decide) (by decide)]; exact t2
        · rw [rwL 0 (by decide) (by decide) (by decide) (by decide) (by decide), sc 74 (by decide) (by decide)]; exact t3
        · rw [rwL 0 (by decide) (by decide) (by decide) (by decide) (by decide), sc 75 (by decide) (by decide)]; exact t4
        · rw [rwL 0 (by decide) (by decide) (by decide) (by decide) (by decide)]
        · refine ⟨fun a _ _ => by rw [RR], fun a _ => ⟨by rw [KK], by rw [LL]⟩, by rw [NN]; exact Nat.le_refl _, ⟨by rw [NN]; exact hS.2.2.1, by rw [NN]; exact Nat.le_add_right _ _⟩, fun a h1 h2 h3 => rwL a h1 h2 (fun e => h3 (by rw [e]; decide)) (fun e => h3 (by rw [e]; decide)) (fun h => h3 (by simp only [List.mem_cons, List.not_mem_nil, or_false] at h ⊢; omega)), fun k hk => sc k (fun e => hk (by rw [e]; decide)) (fun e => hk (by rw [e]; decide))⟩
    · simp only [bd_some, p_let_eq, p_ok, mI_sI, mR_sI, mK_sI, mN_sI, mL_sI, mI_sG, mR_sG, mK_sG, mN_sG, mL_sG, mI_sJ, mR_sJ, mK_sJ, mN_sJ, mL_sJ, z_up, ↓reduceIte, and_self, true_and, and_true, false_and, and_false, not_true_eq_false, not_false_eq_true, Nat.reduceEqDiff, i_10, i_20, i_30, w_in, w_need1, w_need0, m_in, m_thr0, m_thr1, tM, aM, nI_1, nI_pred, reduceIte, wp_some, eq_self, bI_T, bI_F, F_L_deliver, F_X12_deliver, w_ix, n1, c1, cw, F_X13_deliver, F_X13_deliver_c34, F_X13_deliver_c41, m_noCloth, n2, c2, s_o0 hS, s_r0_0 hS, s_r0_1 hS, s_r0_10 hS, s_r0_11 hS, s_r0_12 hS, s_r0_14 hS, s_r0_16 hS, s_r0_19 hS, s_r0_7 hS, s_r0_8 hS, s_r0_9 hS, s_o112 hS]
      exact ⟨(thr 2 (by decide)).1, (thr 2 (by decide)).2.1, (thr 2 (by decide)).2.2.1, fun _ _ _ => trivial, (thr 2 (by decide)).2.2.2⟩
