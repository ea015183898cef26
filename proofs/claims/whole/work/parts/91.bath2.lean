theorem b_bath {c m : p_M} {K i L : Nat} (h : DIv c m) (hK0 : mI c 0 13 = nI K) (hK4 : K ≤ 4) (hi : i < K) (hL : L ≤ 480) (hin : ¬ mI c (57 + 2 * i) 3 = -1) : (F_X12_doNextBath 0 (57 + 2 * i) (nI L) c = some (0, -1, c) ∧ F_X13_step (nI i) (nI L) m = some (-1, m)) ∨ ∃ s c' m', s ≤ L ∧ F_X12_doNextBath 0 (57 + 2 * i) (nI L) c = some (0, nI (L - s), c') ∧ F_X13_step (nI i) (nI L) m = some (nI s, m') ∧ DIv c' (sI m' 88 i (mI m' 88 i + nI s)) ∧ Fc c c' ∧ Fq dM dN m m' ∧ ∀ N, N ≤ 40 → mI m 65 62 = nI N → cnt (wt m' i) N + (L - s) < cnt (wt m i) N + L := by
  obtain ⟨hS, hRL, hRW, hRK, hRH, hRM⟩ := h
  obtain ⟨N, K', M, C, E, lr, hLs, hC, hK, hLot, hM, hZ, hzr, hme, hld⟩ := hRL
  have hK1 : mI c 0 13 = nI K' := hK.1
  have : K' = K := (nI_eq (show K' < 2 ^ 31 by have := hK.2.2; omega) (show K < 2 ^ 31 by omega)).mp (hK1.symm.trans hK0)
  subst this
  have i4 : i < 4 := by omega
  have hN : N ≤ 40 := hLs.2.2.1
  have e62 : mI m 65 62 = nI N := hLs.2.1
  have hMi := hM i hi
  have ii := ix_nI i4 (by decide)
  have ki := nI_clamp (show i < 2 ^ 31 by omega)
  have hm57 : ¬ (65 ≤ 57 + 2 * i ∧ 57 + 2 * i ≤ 111) := by omega
  have hm58 : ¬ (65 ≤ 58 + 2 * i ∧ 58 + 2 * i ≤ 111) := by omega
  obtain ⟨-, y1, y2, -, y4, y5, y6, y7, y8, y9⟩ := hMi
  rw [mg_c hm57] at y1 y2 y6
  rw [mg_c hm58] at y7 y8 y9
  have y1 : mI c (57 + 2 * i) 3 = mI m 86 i := y1
  have y2 : mI c (57 + 2 * i) 4 = mI m 87 i := y2
  have y4 : okB (mI m 87 i) := y4
  have y5 : mI m 86 i = -1 ∨ ∃ j : Nat, j < N ∧ mI m 86 i = nI j ∧ mI m 96 j = 2 ∧ mI m 97 j = nI i := y5
  rcases y5 with h | ⟨j, j1, e86, h96, h97⟩
  · exact absurd (y1.trans h) hin
  have e3 : mI c (57 + 2 * i) 3 = nI j := y1.trans e86
  have o57 := s_o57v hS i4
  have j40 : j < 40 := by omega
  have ij := ix_nI j40 (by decide)
  have kj := nI_clamp (show j < 2 ^ 31 by omega)
  have nj : ¬ nI j < 0 := nI_pos (by omega)
  obtain ⟨P, nb, S, V, G, Lo, Cc, -, -⟩ := hLot j j1
  have hlj : 113 ≤ lr j := S.1
  obtain ⟨-, o5, r7, r8, -, -, o4, hrec, -⟩ := S
  have o5 : mK c (lr j) = 5 ∧ lr j < mN c := o5
  have r7 : mR c (lr j) 7 = some (lr j + 2) := r7
  have r8 : mR c (lr j) 8 = some (lr j + 1) := r8
  have o4 : mK c (lr j + 1) = 4 ∧ lr j + 1 < mN c := o4
  have hrec : isRec c (lr j + 2) (lr j + 3) (lr j + 4) nb := hrec
  have la := c_lotAt2 hS hLs j1 o5
  have hmlr : ¬ (65 ≤ lr j ∧ lr j ≤ 111) := by omega
  obtain ⟨w0, w1, w2, w3, w4, w5, w6, w7, w8, w9, w10, w11, w12⟩ := V
  rw [mg_c hmlr] at w1 w7 w9
  have w1 : mI c (lr j) 1 = mI m 90 j := w1
  have w7 : mI c (lr j) 9 = mI m 96 j := w7
  have w9 : mI c (lr j) 11 = mI m 98 j := w9
  obtain ⟨⟨cc, cc1, cc2⟩, g1, g2, g3, -, -, -, -, -, -, ⟨d, d1, d2, d3⟩, -, -⟩ := G
  have g1 : mI m 90 j = nI P := g1
  have d2 : mI m 98 j = nI d := d2
  have d4 : d < nb := d3 h96
  obtain ⟨b1, b2, b3, b4'⟩ := Cc
  rw [mg_c (show ¬ (65 ≤ lr j + 2 ∧ lr j + 2 ≤ 111) by omega)] at b3
  rw [mg_c (show ¬ (65 ≤ lr j + 3 ∧ lr j + 3 ≤ 111) by omega), mg_c (show ¬ (65 ≤ lr j + 4 ∧ lr j + 4 ≤ 111) by omega)] at b4'
  obtain ⟨x, y, x3, yl, yu, eB, eA, e69, e70⟩ := b4' d d4
  have e69 : mI m 69 (20 * j + d) = nI x := e69
  have e70 : mI m 70 (20 * j + d) = nI y := e70
  have e68 : mI m 68 j = nI nb := b2
  obtain ⟨ba, am⟩ := c_bathAt hrec b3 d4 b1 eB eA
  have ec11 : mI c (lr j) 11 = nI d := w9.trans d2
  have ec1 : mI c (lr j) 1 = nI P := w1.trans g1
  obtain ⟨r, hr, hr5, hok, hv⟩ := h_value2 hRH
  obtain ⟨hv1, hv2⟩ := hv c hS rfl rfl rfl
  obtain ⟨mn, mn1, mn2, emn⟩ := hok.2.2.2.1 x (by omega)
  obtain ⟨lt, lt1, lt2, elt⟩ := hok.2.2.1
  have a9 : 9 + nI x = nI (9 + x) := by rw [show (9 : Int32) = nI 9 from rfl, nI_add]
  have a0 : 0 + nI x = nI (0 + x) := by rw [show (0 : Int32) = nI 0 from rfl, nI_add]
  have a4 : 4 + nI x = nI (4 + x) := by rw [show (4 : Int32) = nI 4 from rfl, nI_add]
  have v9 := hv2 (9 + x) (by omega)
  have v8 : F_X1_value r 8 c = some (mI m 84 8, c) := hv2 8 (by omega)
  have v0 := hv2 (0 + x) (by omega)
  rw [Nat.zero_add] at v0
  have pm : nI mn * nI y = nI (mn * y) := pk_mul mn y
  have pl : nI P * nI lt = nI (P * lt) := pk_mul P lt
  have hmy : mn * y ≤ 1200 := Nat.le_trans (Nat.mul_le_mul mn2 yu) (by decide)
  have hmy1 : 1 ≤ mn * y := Nat.mul_le_mul mn1 yl
  have hPl : P * lt ≤ 1200 := Nat.le_trans (Nat.mul_le_mul g3 lt2) (by decide)
  have hPl1 : 1 ≤ P * lt := Nat.mul_le_mul g2 lt1
  have e20 : 20 * nI j + nI d = nI (20 * j + d) := by rw [show (20 : Int32) = nI 20 from rfl, pk_mul, nI_add]
  have i2 := ix_nI (show 20 * j + d < 840 by omega) (by decide)
  have k2 := nI_clamp (show 20 * j + d < 2 ^ 31 by omega)
  have l2 : 20 * j + d < 840 := by omega
  have i9 := ix_nI (show 9 + x < 36 by omega) (by decide)
  have k9 := nI_clamp (show 9 + x < 2 ^ 31 by omega)
  have l9 : 9 + x < 36 := by omega
  by_cases cL : mn * y ≤ L
  · have cL' : nI (mn * y) ≤ nI L := nI_le cL (by omega)
    -- the draw
    obtain ⟨v, c1, m1, D1, D2, D3, D4, D5, D6⟩ := w_draw hS hRW (C := P * lt) (by omega) (mI m 84 x)
    have hS1 := Sh_q D5 hS
    obtain ⟨L0, hh, cc', kk1, kk2, kk3, kk4, kk5, kk6, kk7⟩ := Lo
    rw [mg_c (show ¬ (65 ≤ lr j + 1 ∧ lr j + 1 ≤ 111) by omega)] at kk3
    have kk4 : isR (mI m 74) j L0 := kk4
    have kk6 : mI m 89 j = nI cc' := kk6
    have kk7 : mI m 73 cc' = nI hh := kk7
    have qa : ∀ a, 113 ≤ a → mI c1 a = mI c a := fun a ha => D5.2.1 a (by omega) (by simp only [List.mem_cons, List.not_mem_nil, or_false]; omega)
    have K1 : mK c1 = mK c := by show c1.2.2.2.1 = c.2.2.2.1; rw [D5.1]
    have N1 : mN c1 = mN c := by show c1.2.2.2.2.2.1 = c.2.2.2.2.2.1; rw [D5.1]
    have R1 : mR c1 = mR c := by show c1.2.1 = c.2.1; rw [D5.1]
    -- what the bath does
    obtain ⟨c2, O1, O2, O3⟩ := c_lk (μ := c1) (a := lr j + 1) (b := x) (n := y) (h := hh) (L := L0) (by rw [K1, N1]; exact o4) (by omega) (by rw [qa _ (by omega)]; exact kk3) kk1 x3 (by omega) (by omega)
    obtain ⟨m2, U1, U2, U3, U4⟩ := m_lk (μ := m1) (r := j) (c := cc') (h := hh) (b := x) (n := y) (L := L0) (by omega) kk5 (by rw [Fq_row D6 74 (by decide)]; exact kk4) (by rw [Fq_row D6 73 (by decide)]; exact kk7) kk1 x3 (by omega) (by omega)
    have hS2 := Sh_q O3 hS1
    have K2 : mK c2 = mK c := by rw [← K1]; show c2.2.2.2.1 = c1.2.2.2.1; rw [O3.1]
    have N2 : mN c2 = mN c := by rw [← N1]; show c2.2.2.2.2.2.1 = c1.2.2.2.2.2.1; rw [O3.1]
    have R2 : mR c2 = mR c := by rw [← R1]; show c2.2.1 = c1.2.1; rw [O3.1]
    have qb : ∀ a, a ≠ 65 → a ≠ lr j + 1 → mI c2 a = mI c1 a := fun a h1 h2 => O3.2.1 a h1 (by simp only [List.mem_cons, List.not_mem_nil, or_false]; omega)
    have e11 : mI c2 (lr j) 11 = nI d := by rw [qb _ (by omega) (by omega), qa _ (by omega)]; exact ec11
    have e1 : mI c2 (lr j) 1 = nI P := by rw [qb _ (by omega) (by omega), qa _ (by omega)]; exact ec1
    have ad : nI d + 1 = nI (d + 1) := nI_add d 1
    have f12 : Fq [lr j + 1, lr j] [] c1 (sI c2 (lr j) 11 (nI (d + 1))) := Fq_sI (Fq_mono O3 (by simp) (fun a h => h)) ⟨by simp, by omega⟩
    have hS3 : Sh (sI c2 (lr j) 11 (nI (d + 1))) := Sh_q f12 hS1
    have hRW3 : RWater (mg (sI c2 (lr j) 11 (nI (d + 1))) m2) := by
      refine RWater_of (μ := mg c1 m1) (fun a ha => ?_) (fun k hk => U4.2.2 k (by simp)) D4
      by_cases q : 65 ≤ a ∧ a ≤ 111
      · rw [mg_m q, mg_m q]
        refine U4.2.1 a (by simp only [List.mem_cons, List.not_mem_nil, or_false] at ha; omega) ?_
        simp only [List.mem_cons, List.not_mem_nil, or_false] at ha ⊢
        omega
      · rw [mg_c q, mg_c q]
        refine f12.2.1 a (by simp only [List.mem_cons, List.not_mem_nil, or_false] at ha; omega) ?_
        simp only [List.mem_cons, List.not_mem_nil, or_false] at ha ⊢
        omega
    -- the water goes back
    have e84 : mI m2 84 = mI m 84 := (Fq_row U4 84 (by decide)).trans (Fq_row D6 84 (by decide))
    have e36 : mI m2 65 36 = v := by rw [U4.2.2 36 (by simp)]; exact D3
    obtain ⟨c4, m3, B1, B2, B3, B4, B5⟩ := w_give hS3 hRW3 hPl1 (show P * lt ≤ 5000 by omega) (mI m 84 (4 + x)) (v + nI P * sl x y)
    have hS4 := Sh_q B4 hS3
    have f98 : mI m3 98 j = nI d := by rw [Fq_row B5 98 (by decide), Fq_row U4 98 (by decide), Fq_row D6 98 (by decide)]; exact d2
    have MB := m_bathes (v := v) j40 d2 (by omega) e69 e70 x3 g1 elt D2 (by rw [Fq_row D6 89 (by decide)]; exact kk6) U1 e36 (by rw [e84]; exact B2) f98
    have fm3 : Fq dM dN m m3 := Fq_trans (Fq_mono D6 (by decide) (by decide)) (Fq_trans (Fq_mono U4 (by decide) (by decide)) (Fq_mono B5 (by decide) (by decide)))
    have fm5 : Fq dM dN m (sI m3 98 j (nI (d + 1))) := Fq_sI fm3 (by decide)
    have fc4 : Fq [30, 32, 33, 57 + 2 * i, 58 + 2 * i, lr j, lr j + 1] [] c c4 := Fq_trans (Fq_mono D5 (by simp) (fun a h => h)) (Fq_trans (Fq_mono f12 (by simp) (fun a h => h)) (Fq_mono B4 (by simp) (fun a h => h)))
    have fc5 : Fq [30, 32, 33, 57 + 2 * i, 58 + 2 * i, lr j, lr j + 1] [] c (sI c4 (57 + 2 * i) 5 (mI c4 (57 + 2 * i) 5 + nI (mn * y))) := Fq_sI fc4 ⟨by simp, by omega⟩
    have K4 : mK c4 = mK c := by show c4.2.2.2.1 = c.2.2.2.1; rw [fc4.1]
    have N4 : mN c4 = mN c := by show c4.2.2.2.2.2.1 = c.2.2.2.2.2.1; rw [fc4.1]
    have q4 : ∀ a, a ≠ 65 → a ≠ 30 → a ≠ 32 → a ≠ 33 → mI c4 a = mI (sI c2 (lr j) 11 (nI (d + 1))) a := fun a h1 h2 h3 h4 => B4.2.1 a h1 (by simp only [List.mem_cons, List.not_mem_nil, or_false]; omega)
    have A57 : mI c4 (57 + 2 * i) = mI c (57 + 2 * i) := by
      rw [q4 _ (by omega) (by omega) (by omega) (by omega), mI_sI, if_neg (by omega), qb _ (by omega) (by omega)]
      exact D5.2.1 _ (by omega) (by simp only [List.mem_cons, List.not_mem_nil, or_false]; omega)
    have A58 : mI c4 (58 + 2 * i) = mI c (58 + 2 * i) := by
      rw [q4 _ (by omega) (by omega) (by omega) (by omega), mI_sI, if_neg (by omega), qb _ (by omega) (by omega)]
      exact D5.2.1 _ (by omega) (by simp only [List.mem_cons, List.not_mem_nil, or_false]; omega)
    have Al : ∀ a, mI c4 (lr j) a = if a = 11 then nI (d + 1) else mI c (lr j) a := fun a => by
      rw [q4 _ (by omega) (by omega) (by omega) (by omega), mI_sI, if_pos rfl, z_up, qb _ (by omega) (by omega), qa _ (by omega)]
    have Al1 : mI c4 (lr j + 1) = mI c2 (lr j + 1) := by
      rw [q4 _ (by omega) (by omega) (by omega) (by omega), mI_sI, if_neg (by omega)]
    have n1 : ¬ 57 + 2 * i = lr j := by omega
    have wtj : wt (mg c m) i j = false := decide_eq_false (fun h => by
      have h := h.1
      have h : mI m 96 j = 1 := h
      rw [h96] at h
      exact absurd h (by decide))
    have hQ : ∀ μ2 : p_M, (∀ j', wt μ2 i j' = if j' = j then false else wt (mg c m) i j') → mI μ2 (57 + 2 * i) 2 = mI (sI c4 (57 + 2 * i) 5 (mI c4 (57 + 2 * i) 5 + nI (mn * y))) (57 + 2 * i) 2 → mI μ2 (58 + 2 * i) = mI (sI c4 (57 + 2 * i) 5 (mI c4 (57 + 2 * i) 5 + nI (mn * y))) (58 + 2 * i) → mI μ2 102 = mI m 102 → QueR μ2 N i := fun μ2 q1 q2 q3 q4 => by
      have hw : wt μ2 i = wt (mg c m) i := by
        funext j'
        rw [q1]
        by_cases e : j' = j
        · rw [if_pos e, e, wtj]
        · rw [if_neg e]
      unfold QueR
      rw [hw, q2, q3, q4, mI_sI, if_pos rfl, z_up, if_neg (by decide), A57, mI_sI, if_neg (by omega), A58]
      exact ⟨y6, y7, y8, y9⟩
    obtain ⟨c6, m6, z1, z2, z3, z4, z5, z6⟩ := fin_step (c5 := sI c4 (57 + 2 * i) 5 (mI c4 (57 + 2 * i) 5 + nI (mn * y))) (m5 := sI m3 98 j (nI (d + 1))) (dn := d + 1) (kk := mI m 87 i) (s := mn * y) hS hLs hC hK hLot hM hZ hzr hme hld hRM j1 hi (Or.inr h96) h97 fc5 fm5
      (by rw [mI_sI, if_pos rfl, z_up, if_neg (by decide), A57]) (by rw [mI_sI, if_pos rfl, z_up, if_neg (by decide), A57]; exact e3) (by rw [mI_sI, if_pos rfl, z_up, if_neg (by decide), A57]; exact y2) (by rw [mI_sI, if_pos rfl, z_up, if_pos rfl, A57])
      (fun a => by
        rw [mI_sI, if_neg (by decide), Fq_row B5 86 (by decide), Fq_row U4 86 (by decide), Fq_row D6 86 (by decide)]
        by_cases e : a = i
        · rw [if_pos e, e]; exact e86
        · rw [if_neg e])
      (fun a => by
        rw [mI_sI, if_neg (by decide), Fq_row B5 87 (by decide), Fq_row U4 87 (by decide), Fq_row D6 87 (by decide)]
        by_cases e : a = i
        · rw [if_pos e, e]
        · rw [if_neg e])
      (by rw [mI_sI, if_neg (by decide), Fq_row B5 88 (by decide), Fq_row U4 88 (by decide), Fq_row D6 88 (by decide)])
      (fun a h1 h2 => by rw [mI_sI, if_neg (by omega), Al, if_neg h2]) (by rw [mI_sI, if_neg (by omega), Al, if_neg (by decide), w7]; exact h96) (by rw [mI_sI, if_neg (by omega), Al, if_pos rfl])
      (fun a => by
        rw [mI_sI, if_neg (by decide), Fq_row B5 96 (by decide), Fq_row U4 96 (by decide), Fq_row D6 96 (by decide)]
        by_cases e : a = j
        · rw [if_pos e, e]; exact h96
        · rw [if_neg e])
      (by rw [mI_sI, if_neg (by decide), Fq_row B5 97 (by decide), Fq_row U4 97 (by decide), Fq_row D6 97 (by decide)])
      (fun a => by rw [mI_sI, if_pos rfl, z_up, Fq_row B5 98 (by decide), Fq_row U4 98 (by decide), Fq_row D6 98 (by decide)])
      (by rw [mI_sI, if_neg (by decide), Fq_row B5 99 (by decide), Fq_row U4 99 (by decide), Fq_row D6 99 (by decide)])
      ⟨lk hh x y L0, hh, cc', lk_ok kk1, kk2, by rw [mI_sI, if_neg (by omega), Al1]; exact O2, by rw [mI_sI, if_neg (by decide), Fq_row B5 74 (by decide)]; exact U2, kk5, kk6, kk7⟩
      (fun a ha => by rw [mI_sI, if_neg (by decide), Fq_row B5 74 (by decide), U3 a ha, Fq_row D6 74 (by decide)])
      (fun nb' h1 h2 => by
        have : nb' = nb := (nI_eq (show nb' < 2 ^ 31 by omega) (show nb < 2 ^ 31 by omega)).mp (h2.symm.trans e68)
        omega) y4 hQ
    have fc6 : Fc c c6 := Fc_q i4 hlj (Fq_trans fc5 (Fq_mono z4 (by simp) (fun a h => h)))
    have fm6 : Fq dM dN m m6 := Fq_trans fm5 (Fq_mono z5 (by decide) (by decide))
    have fm7 : Fq dM dN m (sI m6 88 i (mI m6 88 i + nI (mn * y))) := Fq_sI fm6 (by decide)
    refine Or.inr ⟨mn * y, c6, m6, cL, ?_, ?_, ⟨?_, z3, ?_, rest_of fc6 fm7 hRK hRH hRM⟩, fc6, fm6, ?_⟩
    · have sb : nI L - nI (mn * y) = nI (L - mn * y) := pk_sub cL
      obtain ⟨hw1, hw2⟩ := hv (sI c2 (lr j) 11 (nI (d + 1))) hS3 (by show c2.2 = c.2; rw [O3.1, D5.1]) (by rw [mI_sI, if_neg (by omega), qb _ (by omega) (by omega), Fq_row D5 11 (by decide)]) (by rw [mI_sI, if_neg (by omega), qb _ (by omega) (by omega), Fq_row D5 13 (by decide)])
      have v4 := hw2 (4 + x) (by omega)
      have so := c_soil x3 y (sI c2 (lr j) 11 (nI (d + 1)))
      have hw3 : mR c2 0 5 = some r ∧ mK c2 r = 2 ∧ r < mN c2 := hw1
      rw [R2, K2, N2] at hw3
      have o30 : mK c 30 = 12 ∧ 30 < mN c := s_o30 hS
      simp only [F_X12_doNextBath, bd_some, p_ok, p_let_eq, s_o0 hS, s_r0_0 hS, s_r0_1 hS, s_r0_10 hS, s_r0_11 hS, s_r0_12 hS, s_r0_14 hS, s_r0_16 hS, s_r0_19 hS, s_r0_7 hS, s_r0_8 hS, s_r0_9 hS, o57, e3, la, o5, r7, r8, o4, hrec.1, ec11, ec1, ba, am, hv1, a9, v9, emn, pm, cL', v8, elt, a0, Nat.zero_add, v0, pl, o30, D1, K1, N1, R1, O1, K2, N2, R2, e11, ad, mK_sI, mN_sI, mR_sI, mI_sI, z_up, hw3, a4, v4, so, e1, B1, K4, N4, z1, sb, and_self, true_and, not_false_eq_true, not_true_eq_false, ↓reduceIte, Nat.reduceEqDiff]
    · simp only [F_X13_step, bd_some, p_ok, aM, ii, ki, i4, e86, nj, ij, kj, j40, d2, e20, i2, k2, l2, e69, e70, a9, i9, k9, l9, emn, pm, cL', MB, z2, and_self, true_and, not_false_eq_true, ↓reduceIte]
    · exact Sh_q (Fq_trans fc5 (Fq_mono z4 (cs' := [30, 32, 33, 57 + 2 * i, 58 + 2 * i, lr j, lr j + 1]) (by simp) (fun a h => h))) hS
    · refine RWater_of (μ := mg c4 m3) (fun a ha => ?_) (fun a ha => ?_) B3
      · by_cases q : 65 ≤ a ∧ a ≤ 111
        · rw [mg_m q, mg_m q]
          have : a = 80 ∨ a = 81 ∨ a = 82 := by simp only [List.mem_cons, List.not_mem_nil, or_false] at ha; omega
          rcases this with rfl | rfl | rfl
          · show mI m6 80 = mI m3 80
            rw [Fq_row z5 80 (by decide)]; rfl
          · show mI m6 81 = mI m3 81
            rw [Fq_row z5 81 (by decide)]; rfl
          · show mI m6 82 = mI m3 82
            rw [Fq_row z5 82 (by decide)]; rfl
        · rw [mg_c q, mg_c q]
          rw [z4.2.1 a (by simp only [List.mem_cons, List.not_mem_nil, or_false] at ha; omega) (by simp only [List.mem_cons, List.not_mem_nil, or_false] at ha ⊢; omega), mI_sI, if_neg (by simp only [List.mem_cons, List.not_mem_nil, or_false] at ha; omega)]
      · show mI m6 65 a = mI m3 65 a
        rw [z5.2.2 a (by simp)]
        rfl
    · intro N' hN' hN2
      have hw : wt m6 i = wt m i := by
        funext j'
        rw [z6]
        by_cases e : j' = j
        · rw [if_pos e, e]; exact wtj.symm
        · rw [if_neg e]
      rw [hw]
      omega
  · have cL' : ¬ nI (mn * y) ≤ nI L := nI_ge (by omega) (by omega)
    refine Or.inl ⟨?_, ?_⟩
    · simp only [F_X12_doNextBath, bd_some, p_ok, p_let_eq, s_o0 hS, s_r0_0 hS, s_r0_1 hS, s_r0_10 hS, s_r0_11 hS, s_r0_12 hS, s_r0_14 hS, s_r0_16 hS, s_r0_19 hS, s_r0_7 hS, s_r0_8 hS, s_r0_9 hS, o57, e3, la, o5, r7, hrec.1, ec11, ba, am, hv1, a9, v9, emn, pm, cL', and_self, true_and, ↓reduceIte]
    · simp only [F_X13_step, bd_some, p_ok, aM, ii, ki, i4, e86, nj, ij, kj, j40, d2, e20, i2, k2, l2, e69, e70, a9, i9, k9, l9, emn, pm, cL', and_self, true_and, not_false_eq_true, ↓reduceIte]
