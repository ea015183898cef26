/-! one step of a MACHINE on both sides -/
def DIv (c m : p_M) : Prop := Sh c ∧ RLots (mg c m) ∧ RWater (mg c m) ∧ RKinds (mg c m) ∧ RHouse (mg c m) ∧ RMisc (mg c m)
/-- what the class leaves alone on a day -/
def Fc (c c' : p_M) : Prop := c'.2 = c.2 ∧ ∀ a, a < 113 → a ∉ [30, 32, 33, 57, 58, 59, 60, 61, 62, 63, 64] → mI c' a = mI c a
abbrev dM : List Nat := [74, 81, 82, 86, 87, 88, 96, 97, 98, 99]
abbrev dN : List Nat := [31, 32, 34, 35, 36, 37]
theorem Fc_refl (c : p_M) : Fc c c := ⟨rfl, fun _ _ _ => rfl⟩
theorem Fc_trans {c c1 c2 : p_M} (h : Fc c c1) (g : Fc c1 c2) : Fc c c2 := ⟨g.1.trans h.1, fun a h1 h2 => (g.2 a h1 h2).trans (h.2 a h1 h2)⟩
theorem Fc_q {c c' : p_M} {i l : Nat} (i4 : i < 4) (hl : 113 ≤ l) (f : Fq [30, 32, 33, 57 + 2 * i, 58 + 2 * i, l, l + 1] [] c c') : Fc c c' := by
  refine ⟨f.1, fun a h1 h2 => ?_⟩
  by_cases h : a = 65
  · subst h; funext k; exact f.2.2 k (by simp)
  · refine f.2.1 a h (fun hm => h2 ?_)
    simp only [List.mem_cons, List.not_mem_nil, or_false] at hm ⊢
    omega
theorem RWater_of {μ μ' : p_M} (hr : ∀ a, a ∈ [30, 31, 32, 33, 80, 81, 82] → mI μ' a = mI μ a) (hs : ∀ k, k ∈ [30, 31, 32, 33, 34] → mI μ' 65 k = mI μ 65 k) (h : RWater μ) : RWater μ' := by
  unfold RWater at *
  rw [hr 30 (by decide), hr 31 (by decide), hr 32 (by decide), hr 33 (by decide), hr 80 (by decide), hr 81 (by decide), hr 82 (by decide), hs 30 (by decide), hs 31 (by decide), hs 32 (by decide), hs 33 (by decide), hs 34 (by decide)]
  exact h
theorem rest_of {c c' m m' : p_M} (fc : Fc c c') (fm : Fq dM dN m m') (h1 : RKinds (mg c m)) (h2 : RHouse (mg c m)) (h3 : RMisc (mg c m)) : RKinds (mg c' m') ∧ RHouse (mg c' m') ∧ RMisc (mg c' m') := by
  have r : ∀ a, a < 30 → mI c' a = mI c a := fun a ha => fc.2 a (by omega) (by simp only [List.mem_cons, List.not_mem_nil, or_false]; omega)
  refine ⟨?_, ?_, ?_⟩
  · show mI c' 27 = mI m' 77 ∧ (∀ j, j < 36 → mI c' 27 j = -1 ∨ ∃ x : Nat, x ≤ 100 ∧ mI c' 27 j = nI x) ∧ ∃ n : Nat, n ≤ 9 ∧ mI c' 26 2 = nI n ∧ mI m' 65 25 = nI n ∧ mI c' 28 = mI m' 78 ∧ ∀ j, j < n → ∃ x : Nat, x ≤ 5 ∧ mI c' 28 j = nI x
    rw [r 27 (by decide), r 26 (by decide), r 28 (by decide), Fq_row fm 77 (by decide), Fq_row fm 78 (by decide), Fq_sc fm 25 (by decide)]
    exact h1
  · have e : mR c' = mR c := by show c'.2.1 = c.2.1; rw [fc.1]
    show (mR c' 0 5 = some 10 ∧ mR c' 0 6 = some 12 ∧ HouseR (mI c' 11) (mI m' 84) (mI c' 10 1) (mI m' 65 41)) ∨ (mR c' 0 5 = some 12 ∧ mR c' 0 6 = some 10 ∧ HouseR (mI c' 13) (mI m' 84) (mI c' 12 1) (mI m' 65 41))
    rw [e, r 11 (by decide), r 10 (by decide), r 13 (by decide), r 12 (by decide), Fq_row fm 84 (by decide), Fq_sc fm 41 (by decide)]
    exact h2
  · show (∃ d : Nat, d ≤ 400 ∧ mI c' 0 15 = nI d ∧ mI m' 65 42 = nI d) ∧ mI c' 0 17 = mI m' 65 74 ∧ mI c' 0 18 = mI m' 65 75
    rw [r 0 (by decide), Fq_sc fm 42 (by decide), Fq_sc fm 74 (by decide), Fq_sc fm 75 (by decide)]
    exact h3
theorem cnt_del {P Q : Nat → Bool} {i : Nat} (hp : P i = true) (hq : Q i = false) (h : ∀ j, j ≠ i → P j = Q j) {n : Nat} (hi : i < n) : cnt P n = cnt Q n + 1 := cnt_up hq hp (fun j hj => (h j hj).symm) hi
/-- nothing to take -/
theorem b_take {c m : p_M} {K i L : Nat} (h : DIv c m) (hK0 : mI c 0 13 = nI K) (hK4 : K ≤ 4) (hi : i < K) (hL : L ≤ 480) (hin : mI c (57 + 2 * i) 3 = -1) : (F_X12_takeNext 0 (57 + 2 * i) (nI L) c = some (0, -1, c) ∧ F_X13_step (nI i) (nI L) m = some (-1, m)) ∨ ∃ s c' m', s ≤ L ∧ F_X12_takeNext 0 (57 + 2 * i) (nI L) c = some (0, nI (L - s), c') ∧ F_X13_step (nI i) (nI L) m = some (nI s, m') ∧ DIv c' (sI m' 88 i (mI m' 88 i + nI s)) ∧ Fc c c' ∧ Fq dM dN m m' ∧ ∀ N, N ≤ 40 → mI m 65 62 = nI N → cnt (wt m' i) N + (L - s) < cnt (wt m i) N + L := by
  obtain ⟨hS, hRL, hRW, hRK, hRH, hRM⟩ := h
  obtain ⟨N, K', M, C, E, lr, hLs, hC, hK, hLot, hM, hZ, hzr, hme, hld⟩ := hRL
  have hK1 : mI c 0 13 = nI K' := hK.1
  have : K' = K := (nI_eq (show K' < 2 ^ 31 by have := hK.2.2; omega) (show K < 2 ^ 31 by omega)).mp (hK1.symm.trans hK0)
  subst this
  have i4 : i < 4 := by omega
  have hN : N ≤ 40 := hLs.2.2.1
  have e62 : mI m 65 62 = nI N := hLs.2.1
  have hMi := hM i hi
  have ii := ix_nI i4 (by decide)
  have ki := nI_clamp (show i < 2 ^ 31 by omega)
  have hm57 : ¬ (65 ≤ 57 + 2 * i ∧ 57 + 2 * i ≤ 111) := by omega
  have hm58 : ¬ (65 ≤ 58 + 2 * i ∧ 58 + 2 * i ≤ 111) := by omega
  have y1 := hMi.2.1
  rw [mg_c hm57] at y1
  have y1 : mI c (57 + 2 * i) 3 = mI m 86 i := y1
  have e86 : mI m 86 i = -1 := y1.symm.trans hin
  have y4 : okB (mI m 87 i) := hMi.2.2.2.2.1
  have o57 := s_o57v hS i4
  obtain ⟨u1, u2, u3⟩ := s_q57v hS i4
  rcases b_next hS hLs hLot hMi hld hRK i4 with ⟨f1, g1⟩ | ⟨p, j, k, x, p1, j1, j2, j3, f1, g1, k1, k2, k3, x1, x2, x3⟩
  · refine Or.inl ⟨?_, ?_⟩
    · simp only [F_X12_takeNext, bd_some, p_ok, s_o0 hS, s_r0_0 hS, s_r0_1 hS, s_r0_10 hS, s_r0_11 hS, s_r0_12 hS, s_r0_14 hS, s_r0_16 hS, s_r0_19 hS, s_r0_7 hS, s_r0_8 hS, s_r0_9 hS, f1, and_self, ↓reduceIte, not_true_eq_false]
    · have q : (-1 : Int32) < 0 := by decide
      simp only [F_X13_step, F_X13_step_c99, F_X13_step_c124, F_X13_step_c136, bd_some, p_ok, aM, ii, ki, i4, e86, g1, q, and_self, true_and, not_false_eq_true, ↓reduceIte]
  · have j40 : j < 40 := by omega
    have ij := ix_nI j40 (by decide)
    have kj := nI_clamp (show j < 2 ^ 31 by omega)
    have nj : ¬ nI j < 0 := nI_pos (by omega)
    obtain ⟨P, nb, S, V, G, Lo, Cc, -, -⟩ := hLot j j1
    have hlj : 113 ≤ lr j := S.1
    have o5 : mK c (lr j) = 5 ∧ lr j < mN c := S.2.1
    have la := c_lotAt2 hS hLs j1 o5
    have y4c : okB (mI c (57 + 2 * i) 4) := by
      have y2 := hMi.2.2.1
      rw [mg_c hm57] at y2
      rw [show mI c (57 + 2 * i) 4 = mI m 87 i from y2]
      exact y4
    have hbt := c_between hS y4c k1
    rw [x3] at hbt
    have p40 : p < 40 := by have := cnt_le (wt (mg c m) i) N; omega
    have ip := ix_nI p40 (by decide)
    have kp := nI_clamp (show p < 2 ^ 31 by omega)
    have np : ¬ nI p = -1 := nI_nm1 (by omega)
    -- the Model's way to the choice
    have hst : F_X13_step (nI i) (nI L) m = F_X13_step_c124 (nI i) (nI L) (nI j) (nI x) m := by
      have q : (-1 : Int32) < 0 := by decide
      rcases y4 with h | ⟨z, z1, z2⟩
      · have hx : nI x = 0 := by rw [← x2]; unfold crr; rw [if_pos h]
        have q2 : ¬ (0 : Int32) ≤ -1 := by decide
        simp only [F_X13_step, F_X13_step_c99, bd_some, p_ok, aM, ii, ki, i4, e86, g1, q, nj, h, q2, hx, and_self, true_and, not_false_eq_true, ↓reduceIte]
      · have kz := nI_clamp (show z < 2 ^ 31 by omega)
        have q2 : (0 : Int32) ≤ nI z := nI_pos' (by omega)
        have e : 6 * nI z + nI k = nI (6 * z + k) := by rw [show (6 : Int32) = nI 6 from rfl, pk_mul, nI_add]
        have i2 := ix_nI (show 6 * z + k < 36 by omega) (by decide)
        have k2' := nI_clamp (show 6 * z + k < 2 ^ 31 by omega)
        have l2 : 6 * z + k < 36 := by omega
        have hx : mI m 77 (6 * z + k) = nI x := by
          rw [← x2, z2]
          unfold crr
          rw [if_neg (nI_nm1 (show z < 2 ^ 31 by omega)), kz]
        simp only [F_X13_step, bd_some, p_ok, aM, ii, ki, i4, e86, g1, q, nj, z2, q2, ij, kj, j40, k2, e, i2, k2', l2, hx, and_self, true_and, not_false_eq_true, ↓reduceIte]
    by_cases cL : x ≤ L
    · have cL' : nI x ≤ nI L := nI_le cL (by omega)
      obtain ⟨q, hq⟩ : ∃ q, cnt (wt (mg c m) i) N = q + 1 := ⟨cnt (wt (mg c m) i) N - 1, by omega⟩
      have q40 : q < 40 := by have := cnt_le (wt (mg c m) i) N; omega
      obtain ⟨-, -, y2, -, -, -, y6, y7, y8, y9⟩ := hMi
      rw [mg_c hm57] at y2 y6
      rw [mg_c hm58] at y7 y8 y9
      rw [hq] at y6 y7 y8 y9
      obtain ⟨c2, t1, t2, t3, t4⟩ := c_takeIn hS i4 q40 (show p ≤ q by omega) y6 j2 (nI k)
      have hS2 := Sh_q t4 hS
      have f23 : Fq [57 + 2 * i, 58 + 2 * i] [] c (sI c2 (57 + 2 * i) 5 (mI c2 (57 + 2 * i) 5 + nI x)) := Fq_sI t4 ⟨by simp, by omega⟩
      have hS3 : Sh (sI c2 (57 + 2 * i) 5 (mI c2 (57 + 2 * i) 5 + nI x)) := Sh_q f23 hS
      have hRW3 : RWater (mg (sI c2 (57 + 2 * i) 5 (mI c2 (57 + 2 * i) 5 + nI x)) m) := by
        refine RWater_of (μ := mg c m) (fun a ha => ?_) (fun k hk => rfl) hRW
        by_cases q : 65 ≤ a ∧ a ≤ 111
        · rw [mg_m q, mg_m q]
        · rw [mg_c q, mg_c q]
          refine f23.2.1 a (by omega) ?_
          simp only [List.mem_cons, List.not_mem_nil, or_false] at ha ⊢
          omega
      obtain ⟨c4, w1, w2, w3⟩ := w_out hS3 hRW3 (nI x)
      have hS4 := Sh_q w3 hS3
      have f4 : Fq [30, 32, 33, 57 + 2 * i, 58 + 2 * i, lr j, lr j + 1] [] c c4 := Fq_trans (Fq_mono f23 (by simp) (fun a h => h)) (Fq_mono w3 (by simp) (fun a h => h))
      have o5' : mK c4 (lr j) = 5 ∧ lr j < mN c4 := by
        have e1 : mK c4 = mK c := by show c4.2.2.2.1 = c.2.2.2.1; rw [f4.1]
        have e2 : mN c4 = mN c := by show c4.2.2.2.2.2.1 = c.2.2.2.2.2.1; rw [f4.1]
        rw [e1, e2]; exact o5
      have A57 : ∀ a, mI c4 (57 + 2 * i) a = if a = 5 then mI c (57 + 2 * i) 5 + nI x else if a = 2 then nI q else if a = 4 then nI k else if a = 3 then nI j else mI c (57 + 2 * i) a := fun a => by
        rw [w3.2.1 _ (by omega) (by simp only [List.mem_cons, List.not_mem_nil, or_false]; omega), mI_sI, if_pos rfl, z_up, t2 5, t2 a]
        rfl
      have A58 : ∀ a, mI c4 (58 + 2 * i) a = if p ≤ a ∧ a < q then mI c (58 + 2 * i) (a + 1) else mI c (58 + 2 * i) a := fun a => by
        rw [w3.2.1 _ (by omega) (by simp only [List.mem_cons, List.not_mem_nil, or_false]; omega), mI_sI, if_neg (show ¬ 58 + 2 * i = 57 + 2 * i by omega)]
        exact t3 a
      have Ao : ∀ a, a ≠ 65 → a ≠ 30 → a ≠ 57 + 2 * i → a ≠ 58 + 2 * i → mI c4 a = mI c a := fun a h1 h2 h3 h4 => by
        rw [w3.2.1 _ h1 (by simp only [List.mem_cons, List.not_mem_nil, or_false]; omega)]
        exact f23.2.1 _ h1 (by simp only [List.mem_cons, List.not_mem_nil, or_false]; omega)
      have f5 : Fq [30, 32, 33, 57 + 2 * i, 58 + 2 * i, lr j, lr j + 1] [] c (sI c4 (lr j) 9 2) := Fq_sI f4 ⟨by simp, by omega⟩
      obtain ⟨dn, d1, d2, d3⟩ := G.2.2.2.2.2.2.2.2.2.2.1
      have d2 : mI m 98 j = nI dn := d2
      have w98 := V.2.2.2.2.2.2.2.2.2.1
      rw [mg_c (show ¬ (65 ≤ lr j ∧ lr j ≤ 111) by omega)] at w98
      have w98 : mI c (lr j) 11 = mI m 98 j := w98
      have hwt := of_decide_eq_true j3
      have h96 : mI m 96 j = 1 := hwt.1
      have h97 : mI m 97 j = nI i := hwt.2
      have hQ : ∀ μ2 : p_M, (∀ j', wt μ2 i j' = if j' = j then false else wt (mg c m) i j') → mI μ2 (57 + 2 * i) 2 = mI (sI c4 (lr j) 9 2) (57 + 2 * i) 2 → mI μ2 (58 + 2 * i) = mI (sI c4 (lr j) 9 2) (58 + 2 * i) → mI μ2 102 = mI m 102 → QueR μ2 N i := fun μ2 a1 a2 a3 a4 => by
        have hcn : cnt (wt μ2 i) N = q := by
          have := cnt_del (P := wt (mg c m) i) (Q := wt μ2 i) (i := j) j3 (by rw [a1, if_pos rfl]) (fun j' hj' => by rw [a1, if_neg hj']) j1
          omega
        have e1 : mI μ2 (57 + 2 * i) 2 = nI q := by rw [a2, mI_sI, if_neg (show ¬ 57 + 2 * i = lr j by omega), A57]; rfl
        have e2 : ∀ a, mI μ2 (58 + 2 * i) a = if p ≤ a ∧ a < q then mI c (58 + 2 * i) (a + 1) else mI c (58 + 2 * i) a := fun a => by
          rw [a3, mI_sI, if_neg (show ¬ 58 + 2 * i = lr j by omega)]; exact A58 a
        have y8 : ∀ m1 m1' j j', m1 < m1' → m1' < q + 1 → j < N → j' < N → mI c (58 + 2 * i) m1 = nI j → mI c (58 + 2 * i) m1' = nI j' → ∃ t t' : Nat, t < t' ∧ t' < 64 ∧ mI m 102 j = nI t ∧ mI m 102 j' = nI t' := y8
        -- two places have two lots
        have inj : ∀ m1 m1' j', m1 < m1' → m1' < q + 1 → j' < N → mI c (58 + 2 * i) m1 = nI j' → mI c (58 + 2 * i) m1' = nI j' → False := fun m1 m1' j' b1 b2 b3 b4 b5 => by
          obtain ⟨t, t', z1, z2, z3, z4⟩ := y8 m1 m1' j' j' b1 b2 b3 b3 b4 b5
          have := (nI_eq (show t < 2 ^ 31 by omega) (show t' < 2 ^ 31 by omega)).mp (z3.symm.trans z4)
          omega
        have src : ∀ a, a < q → ∃ a', a' < q + 1 ∧ a' ≠ p ∧ mI μ2 (58 + 2 * i) a = mI c (58 + 2 * i) a' ∧ (a' = a ∧ a < p ∨ a' = a + 1 ∧ p ≤ a) := fun a ha => by
          by_cases b : p ≤ a
          · exact ⟨a + 1, by omega, by omega, by rw [e2, if_pos ⟨b, ha⟩], Or.inr ⟨rfl, b⟩⟩
          · exact ⟨a, by omega, by omega, by rw [e2, if_neg (fun z => b z.1)], Or.inl ⟨rfl, by omega⟩⟩
        unfold QueR
        rw [hcn, a4]
        refine ⟨e1, fun a ha => ?_, fun a a' j' j'' b1 b2 b3 b4 b5 b6 => ?_, fun j' b1 b2 => ?_⟩
        · obtain ⟨a', b1, b2, b3, b4⟩ := src a ha
          obtain ⟨j', z1, z2, z3⟩ := y7 a' b1
          refine ⟨j', z1, b3.trans z2, ?_⟩
          rw [a1, if_neg (fun e => ?_)]
          · exact z3
          · subst e
            by_cases b5 : a' < p
            · exact inj a' p j' b5 (by omega) z1 z2 j2
            · exact inj p a' j' (by omega) b1 z1 j2 z2
        · obtain ⟨z, z1, z2, z3, z4⟩ := src a (by omega)
          obtain ⟨z', z1', z2', z3', z4'⟩ := src a' b2
          exact y8 z z' j' j'' (by omega) z1' b3 b4 (z3.symm.trans b5) (z3'.symm.trans b6)
        · rw [a1] at b2
          by_cases b3 : j' = j
          · rw [if_pos b3] at b2; cases b2
          · rw [if_neg b3] at b2
            obtain ⟨a, z1, z2⟩ := y9 j' b1 b2
            have z3 : a ≠ p := fun e => by
              rw [e] at z2
              exact b3 ((nI_eq (show j' < 2 ^ 31 by omega) (show j < 2 ^ 31 by omega)).mp (z2.symm.trans j2))
            by_cases b4 : a < p
            · exact ⟨a, by omega, by rw [e2, if_neg (fun z => by omega)]; exact z2⟩
            · exact ⟨a - 1, by omega, by rw [e2, if_pos (by omega), show a - 1 + 1 = a by omega]; exact z2⟩
      obtain ⟨L0, hh, cc, kk1, kk2, kk3, kk4, kk5, kk6, kk7⟩ := Lo
      rw [mg_c (show ¬ (65 ≤ lr j + 1 ∧ lr j + 1 ≤ 111) by omega)] at kk3
      obtain ⟨m2, hm2⟩ : ∃ m2, m2 = sI (sI (sI (sI (sI (sI m 65 31 (mI m 65 31 + nI x)) 65 32 (mI m 65 32 + nI x)) 65 34 (mI m 65 34 + nI x)) 96 j 2) 86 i (nI j)) 87 i (nI k) := ⟨_, rfl⟩
      have fm2 : Fq dM dN m m2 := by
        rw [hm2]
        exact Fq_sI (Fq_sI (Fq_sI (Fq_s65 (Fq_s65 (Fq_s65 (Fq_refl m) (by decide)) (by decide)) (by decide)) (by decide)) (by decide)) (by decide)
      obtain ⟨c6, m6, z1, z2, z3, z4, z5, z6⟩ := fin_step (c5 := sI c4 (lr j) 9 2) (m5 := m2) (dn := dn) (kk := nI k) (s := x) hS hLs hC hK hLot hM hZ hzr hme hld hRM j1 hi (Or.inl h96) h97 f5 fm2
        (by rw [mI_sI, if_neg (show ¬ 57 + 2 * i = lr j by omega), A57]; rfl) (by rw [mI_sI, if_neg (show ¬ 57 + 2 * i = lr j by omega), A57]; rfl) (by rw [mI_sI, if_neg (show ¬ 57 + 2 * i = lr j by omega), A57]; rfl) (by rw [mI_sI, if_neg (show ¬ 57 + 2 * i = lr j by omega), A57]; rfl)
        (fun a => by rw [hm2]; rfl) (fun a => by rw [hm2]; rfl) (by rw [hm2]; rfl)
        (fun a h1 h2 => by rw [mI_sI, if_pos rfl, z_up, if_neg h1, Ao _ (by omega) (by omega) (by omega) (by omega)]) (by rw [mI_sI, if_pos rfl, z_up, if_pos rfl]) (by rw [mI_sI, if_pos rfl, z_up, if_neg (by decide), Ao _ (by omega) (by omega) (by omega) (by omega), w98]; exact d2)
        (fun a => by rw [hm2]; rfl) (by rw [hm2]; rfl)
        (fun a => by
          rw [show mI m2 98 = mI m 98 from by rw [hm2]; rfl]
          by_cases e : a = j
          · rw [if_pos e, e]; exact d2
          · rw [if_neg e]) (by rw [hm2]; rfl)
        ⟨L0, hh, cc, kk1, kk2, by rw [mI_sI, if_neg (show ¬ lr j + 1 = lr j by omega), Ao _ (by omega) (by omega) (by omega) (by omega)]; exact kk3, by rw [show mI m2 74 = mI m 74 from by rw [hm2]; rfl]; exact kk4, kk5, kk6, kk7⟩
        (fun a _ => by rw [show mI m2 74 = mI m 74 from by rw [hm2]; rfl])
        (fun nb' h1 h2 => by
          have e68 : mI m 68 j = nI nb := Cc.2.1
          have : nb' = nb := (nI_eq (show nb' < 2 ^ 31 by omega) (show nb < 2 ^ 31 by have := Cc.1; omega)).mp (h2.symm.trans e68)
          omega) (Or.inr ⟨k, k1, rfl⟩) hQ
      have fc6 : Fc c c6 := Fc_q i4 hlj (Fq_trans f5 (Fq_mono z4 (by simp) (fun a h => h)))
      have fm6 : Fq dM dN m m6 := Fq_trans fm2 (Fq_mono z5 (by decide) (by decide))
      have fm7 : Fq dM dN m (sI m6 88 i (mI m6 88 i + nI x)) := Fq_sI fm6 (by decide)
      refine Or.inr ⟨x, c6, m6, cL, ?_, ?_, ⟨?_, z3, ?_, rest_of fc6 fm7 hRK hRH hRM⟩, fc6, fm6, ?_⟩
      · have sb : nI L - nI x = nI (L - x) := pk_sub cL
        simp only [F_X12_takeNext, bd_some, p_ok, p_let_eq, s_o0 hS, s_r0_0 hS, s_r0_1 hS, s_r0_10 hS, s_r0_11 hS, s_r0_12 hS, s_r0_14 hS, s_r0_16 hS, s_r0_19 hS, s_r0_7 hS, s_r0_8 hS, s_r0_9 hS, s_o26 hS, s_r26_0 hS, s_r26_1 hS, s_r26_3 hS, s_o0 hS2, s_r0_0 hS2, s_r0_1 hS2, s_r0_10 hS2, s_r0_11 hS2, s_r0_12 hS2, s_r0_14 hS2, s_r0_16 hS2, s_r0_19 hS2, s_r0_7 hS2, s_r0_8 hS2, s_r0_9 hS2, s_o30 hS2, s_r30_0 hS2, s_r30_1 hS2, s_r30_2 hS2, s_o0 hS4, s_r0_0 hS4, s_r0_1 hS4, s_r0_10 hS4, s_r0_11 hS4, s_r0_12 hS4, s_r0_14 hS4, s_r0_16 hS4, s_r0_19 hS4, s_r0_7 hS4, s_r0_8 hS4, s_r0_9 hS4, s_o57v hS2 i4, mK_sI, mN_sI, mR_sI, f1, np, o57, u1, u2, u3, ip, kp, p40, j2, la, o5, k3, hbt, cL', t1, w1, o5', z1, sb, and_self, true_and, not_false_eq_true, not_true_eq_false, ↓reduceIte]
      · rw [hst]
        have e : F_X13_step_c124 (nI i) (nI L) (nI j) (nI x) m = (F_X13_washes (nI i) m2).bind fun q4 => some (nI x, q4.2) := by
          rw [hm2]
          simp only [F_X13_step_c124, p_ok, tM, aM, nj, cL', ij, kj, j40, ii, ki, i4, mI_sI, z_up, Nat.reduceEqDiff, k2, and_self, true_and, not_false_eq_true, ↓reduceIte]
        rw [e, z2]
        rfl
      · exact Sh_q (Fq_trans f5 (Fq_mono z4 (cs' := [30, 32, 33, 57 + 2 * i, 58 + 2 * i, lr j, lr j + 1]) (by simp) (fun a h => h))) hS
      · refine RWater_of (fun a ha => ?_) (fun a ha => ?_) w2
        · by_cases q : 65 ≤ a ∧ a ≤ 111
          · rw [mg_m q, mg_m q]
            have : a = 80 ∨ a = 81 ∨ a = 82 := by simp only [List.mem_cons, List.not_mem_nil, or_false] at ha; omega
            rcases this with rfl | rfl | rfl
            · show mI m6 80 = mI m 80
              rw [Fq_row z5 80 (by decide), hm2]; rfl
            · show mI m6 81 = mI m 81
              rw [Fq_row z5 81 (by decide), hm2]; rfl
            · show mI m6 82 = mI m 82
              rw [Fq_row z5 82 (by decide), hm2]; rfl
          · rw [mg_c q, mg_c q]
            rw [z4.2.1 a (by omega) (by simp only [List.mem_cons, List.not_mem_nil, or_false] at ha ⊢; omega), mI_sI, if_neg (by simp only [List.mem_cons, List.not_mem_nil, or_false] at ha; omega)]
        · show mI m6 65 a = mI (sI (sI (sI m 65 31 (mI m 65 31 + nI x)) 65 32 (mI m 65 32 + nI x)) 65 34 (mI m 65 34 + nI x)) 65 a
          rw [z5.2.2 a (by simp), hm2]
          rfl
      · intro N' hN' hN2
        have : N' = N := (nI_eq (show N' < 2 ^ 31 by omega) (show N < 2 ^ 31 by omega)).mp (hN2.symm.trans e62)
        subst this
        have := cnt_del (P := wt m i) (Q := wt m6 i) (i := j) j3 (by rw [z6, if_pos rfl]) (fun j' hj' => by rw [z6, if_neg hj']) j1
        omega
    · have cL' : ¬ nI x ≤ nI L := nI_ge (by omega) (by omega)
      refine Or.inl ⟨?_, ?_⟩
      · simp only [F_X12_takeNext, bd_some, p_ok, s_o0 hS, s_r0_0 hS, s_r0_1 hS, s_r0_10 hS, s_r0_11 hS, s_r0_12 hS, s_r0_14 hS, s_r0_16 hS, s_r0_19 hS, s_r0_7 hS, s_r0_8 hS, s_r0_9 hS, s_o26 hS, s_r26_0 hS, s_r26_1 hS, s_r26_3 hS, f1, np, o57, u1, u2, u3, ip, kp, p40, j2, la, o5, k3, hbt, cL', and_self, true_and, not_false_eq_true, not_true_eq_false, ↓reduceIte]
      · rw [hst]
        simp only [F_X13_step_c124, F_X13_step_c136, nj, cL', ↓reduceIte]
