/-! the class reads a recipe -/
theorem nI_n1 {p : Nat} (h : p < 2 ^ 31) : ¬ nI p = -1 := fun e => nI_pos h (by rw [e]; decide)
def RBA (R B A : Nat) : Prop := R = 4 ∧ B = 5 ∧ A = 6 ∨ R = 7 ∧ B = 8 ∧ A = 9
theorem c_bath_ok {f : Nat → Int32} {e k n R B A x : Nat} {y : Int32} {μ : p_M} (hS : Sh μ) (hT : Tx μ f e k) (h3 : mI μ 1 3 = -1) (hi : isRec μ R B A 20) (hn : n < 20) (hl : mI μ R 2 = nI n) (hR : RBA R B A) (hx : bth f e k = some x) (hy : (if x = 3 then some (1 : Int32) else numP f e 2 1 20 (wd f e k)) = some y) : F_X8_readBath R 1 μ = some (0, sI (sI (sI (cset μ (if x = 3 then wd f e k else nm f e (wd f e k))) B n (nI x)) A n y) R 2 (nI (n + 1))) := by
  obtain ⟨i1, i2, i3, i4, i5, i6, i7⟩ := hi
  have hw := wd_le (f := f) hT.2.2.2.2
  have h4 := hT.2.2.2.1
  have hS2 : Sh (cset μ (wd f e k)) := Sh_cset _ hS
  have pk := c_bath hS hT h3
  rw [hx] at pk
  have R1 : ¬ R = 1 := by rcases hR with h | h <;> omega
  have B1 : ¬ B = 1 := by rcases hR with h | h <;> omega
  have A1 : ¬ A = 1 := by rcases hR with h | h <;> omega
  have RB : ¬ R = B := by rcases hR with h | h <;> omega
  have RA : ¬ R = A := by rcases hR with h | h <;> omega
  have AB : ¬ A = B := by rcases hR with h | h <;> omega
  have c1 : nI n < nI 20 := nI_lt hn (by decide)
  have c2 : ¬ nI 20 ≤ nI n := nI_ge hn (by decide)
  have x1 := ix_nI hn (by decide)
  have k1 := nI_clamp (show n < 2 ^ 31 by omega)
  have a1 : nI n + 1 = nI (n + 1) := nI_add n 1
  have c20 : 20 ≤ 20 ∧ 20 ≤ 26 := by decide
  have mb : ∀ l a, ¬ a = 1 → mI (cset μ l) a = mI μ a := fun l a h => mI_csetO h
  by_cases c3 : x = 3
  · subst c3
    have hy : some (1 : Int32) = some y := hy
    cases hy
    have pk : F_X10_pick 1 (p_E + 10 + 22) μ = some (3, cset μ (wd f e k)) := pk
    simp only [bd_some, p_let_eq, p_ok, mI_sI, mR_sI, mK_sI, mN_sI, mL_sI, mI_sG, mR_sG, mK_sG, mN_sG, mL_sG, mI_sJ, mR_sJ, mK_sJ, mN_sJ, mL_sJ, z_up, ↓reduceIte, and_self, true_and, and_true, false_and, and_false, not_true_eq_false, not_false_eq_true, Nat.reduceEqDiff, i_10, i_20, i_30, w_in, w_need1, w_need0, m_in, m_thr0, m_thr1, tM, aM, nI_1, nI_pred, reduceIte, wp_some, eq_self, bI_T, bI_F, F_X8_readBath, F_X8_readBath_c41, F_X8_readBath_c56, F_X8_add, F_X8_add_c42, s_o1 hS, s_r1_0 hS, s_o1 hS2, s_r1_0 hS2, i1, i2, i3, i4, i5, i6, i7, hl, c1, c2, c20, pk, mI_cset3, h3, mb _ _ R1, mb _ _ B1, mb _ _ A1, show ∀ l, mR (cset μ l) = mR μ from fun _ => rfl, show ∀ l, mK (cset μ l) = mK μ from fun _ => rfl, show ∀ l, mL (cset μ l) = mL μ from fun _ => rfl, show ∀ l, mN (cset μ l) = mN μ from fun _ => rfl, x1, k1, hn, RB, RA, a1]
    rfl
  · rw [if_neg c3] at hy ⊢
    have n3 : ¬ nI x = 3 := fun e => c3 ((nI_eq (show x < 2 ^ 31 by have := bth_le hx; omega) (show 3 < 2 ^ 31 by decide)).mp e)
    have pk : F_X10_pick 1 (p_E + 10 + 22) μ = some (nI x, cset μ (wd f e k)) := pk
    have nu := c_number (g := 2) (lo := 1) (hi := 20) (by decide) hS2 (Tx_cset hT hw.2) (mI_cset3.trans h3)
    rw [hy, cset_cset] at nu
    have nu : F_X10_number 1 2 1 20 (cset μ (wd f e k)) = some (y, cset μ (nm f e (wd f e k))) := nu
    have hS3 : Sh (cset μ (nm f e (wd f e k))) := Sh_cset _ hS
    simp only [bd_some, p_let_eq, p_ok, mI_sI, mR_sI, mK_sI, mN_sI, mL_sI, mI_sG, mR_sG, mK_sG, mN_sG, mL_sG, mI_sJ, mR_sJ, mK_sJ, mN_sJ, mL_sJ, z_up, ↓reduceIte, and_self, true_and, and_true, false_and, and_false, not_true_eq_false, not_false_eq_true, Nat.reduceEqDiff, i_10, i_20, i_30, w_in, w_need1, w_need0, m_in, m_thr0, m_thr1, tM, aM, nI_1, nI_pred, reduceIte, wp_some, eq_self, bI_T, bI_F, F_X8_readBath, F_X8_readBath_c41, F_X8_readBath_c56, F_X8_add, F_X8_add_c42, s_o1 hS, s_r1_0 hS, s_o1 hS2, s_r1_0 hS2, s_o1 hS3, s_r1_0 hS3, i1, i2, i3, i4, i5, i6, i7, hl, c1, c2, c20, pk, n3, nu, mI_cset3, h3, mb _ _ R1, mb _ _ B1, mb _ _ A1, show ∀ l, mR (cset μ l) = mR μ from fun _ => rfl, show ∀ l, mK (cset μ l) = mK μ from fun _ => rfl, show ∀ l, mL (cset μ l) = mL μ from fun _ => rfl, show ∀ l, mN (cset μ l) = mN μ from fun _ => rfl, x1, k1, hn, RB, RA, a1]
theorem c_bath_bad {f : Nat → Int32} {e k n R B A : Nat} {μ : p_M} (hS : Sh μ) (hT : Tx μ f e k) (h3 : mI μ 1 3 = -1) (hi : isRec μ R B A 20) (hn : n ≤ 20) (hl : mI μ R 2 = nI n) (h : n = 20 ∨ bth f e k = none ∨ ∃ x, bth f e k = some x ∧ (if x = 3 then some (1 : Int32) else numP f e 2 1 20 (wd f e k)) = none) : ∃ k', F_X8_readBath R 1 μ = some (0, sI (cset μ k') 1 3 (nI (if n < 20 ∧ (bth f e k).isSome = true then bl f e (wd f e k) else bl f e k))) := by
  obtain ⟨i1, i2, i3, i4, i5, i6, i7⟩ := hi
  have hw := wd_le (f := f) hT.2.2.2.2
  have hb := bl_le (f := f) hT.2.2.2.2
  have hb2 := bl_le (f := f) hw.2
  have h4 := hT.2.2.2.1
  have c20 : 20 ≤ 20 ∧ 20 ≤ 26 := by decide
  by_cases cn : n = 20
  · subst cn
    have c1 : ¬ nI 20 < nI 20 := by decide
    rw [if_neg (fun h => absurd h.1 (by decide))]
    refine ⟨bl f e k, ?_⟩
    simp only [bd_some, p_let_eq, p_ok, mI_sI, mR_sI, mK_sI, mN_sI, mL_sI, mI_sG, mR_sG, mK_sG, mN_sG, mL_sG, mI_sJ, mR_sJ, mK_sJ, mN_sJ, mL_sJ, z_up, ↓reduceIte, and_self, true_and, and_true, false_and, and_false, not_true_eq_false, not_false_eq_true, Nat.reduceEqDiff, i_10, i_20, i_30, w_in, w_need1, w_need0, m_in, m_thr0, m_thr1, tM, aM, nI_1, nI_pred, reduceIte, wp_some, eq_self, bI_T, bI_F, F_X8_readBath, s_o1 hS, s_r1_0 hS, i1, i2, i4, i5, hl, c1, c20, c_refuseNext hS hT h3]
  · have hn : n < 20 := by omega
    have c1 : nI n < nI 20 := nI_lt hn (by decide)
    have hS2 : Sh (cset μ (wd f e k)) := Sh_cset _ hS
    have pk := c_bath hS hT h3
    rcases h with h | h | ⟨x, hx, hy⟩
    · exact absurd h cn
    · rw [h] at pk
      have pk : F_X10_pick 1 (p_E + 10 + 22) μ = some (-1, sI (cset μ (wd f e k)) 1 3 (nI (bl f e k))) := pk
      have hS3 : Sh (sI (cset μ (wd f e k)) 1 3 (nI (bl f e k))) := Sh_q (Fq_sI (cs := [1]) (ss := []) (Fq_refl _) (by decide)) hS2
      have n3 : ¬ (-1 : Int32) = 3 := by decide
      have d3 : ¬ mI (sI (cset μ (wd f e k)) 1 3 (nI (bl f e k))) 1 3 = -1 := by
        simp only [mI_sI, mR_sI, mK_sI, mN_sI, mL_sI, mI_sG, mR_sG, mK_sG, mN_sG, mL_sG, mI_sJ, mR_sJ, mK_sJ, mN_sJ, mL_sJ, mI_sA, mR_sA, mK_sA, mN_sA, mL_sA, z_up, ↓reduceIte, reduceIte, Nat.reduceEqDiff, true_and, and_true]
        exact nI_n1 (by omega)
      rw [if_neg (fun hh => by rw [h] at hh; exact absurd hh.2 (by decide))]
      refine ⟨wd f e k, ?_⟩
      simp only [F_X8_readBath, F_X8_readBath_c41, F_X8_readBath_c56, bd_some, p_ok, s_o1 hS, s_r1_0 hS, s_o1 hS3, i1, i2, i4, i5, hl, c1, c20, pk, n3, c_numberD hS3 d3, d3, and_self, true_and, ↓reduceIte, not_false_eq_true, not_true_eq_false]
    · rw [hx] at pk
      have c3 : ¬ x = 3 := fun c => by rw [if_pos c] at hy; cases hy
      rw [if_neg c3] at hy
      have n3 : ¬ nI x = 3 := fun e => c3 ((nI_eq (show x < 2 ^ 31 by have := bth_le hx; omega) (show 3 < 2 ^ 31 by decide)).mp e)
      have pk : F_X10_pick 1 (p_E + 10 + 22) μ = some (nI x, cset μ (wd f e k)) := pk
      have nu := c_number (g := 2) (lo := 1) (hi := 20) (by decide) hS2 (Tx_cset hT hw.2) (mI_cset3.trans h3)
      rw [hy, cset_cset] at nu
      have nu : F_X10_number 1 2 1 20 (cset μ (wd f e k)) = some (-1, sI (cset μ (nm f e (wd f e k))) 1 3 (nI (bl f e (wd f e k)))) := nu
      have hS3 : Sh (sI (cset μ (nm f e (wd f e k))) 1 3 (nI (bl f e (wd f e k)))) := Sh_q (Fq_sI (cs := [1]) (ss := []) (Fq_refl _) (by decide)) (Sh_cset _ hS)
      have d3 : ¬ mI (sI (cset μ (nm f e (wd f e k))) 1 3 (nI (bl f e (wd f e k)))) 1 3 = -1 := by
        simp only [mI_sI, mR_sI, mK_sI, mN_sI, mL_sI, mI_sG, mR_sG, mK_sG, mN_sG, mL_sG, mI_sJ, mR_sJ, mK_sJ, mN_sJ, mL_sJ, mI_sA, mR_sA, mK_sA, mN_sA, mL_sA, z_up, ↓reduceIte, reduceIte, Nat.reduceEqDiff, true_and, and_true]
        exact nI_n1 (by omega)
      rw [if_pos ⟨hn, by rw [hx]; rfl⟩]
      refine ⟨nm f e (wd f e k), ?_⟩
      simp only [F_X8_readBath, F_X8_readBath_c41, F_X8_readBath_c56, bd_some, p_ok, s_o1 hS, s_r1_0 hS, s_o1 hS2, s_o1 hS3, i1, i2, i4, i5, hl, c1, c20, pk, n3, nu, d3, and_self, true_and, ↓reduceIte, not_false_eq_true, not_true_eq_false]
abbrev cOut (e R B A : Nat) (μ' : p_M) (o : Nat ⊕ (Nat × (Nat → Int32) × (Nat → Int32))) : Prop := match o with
    | .inl p => p ≤ e ∧ mI μ' 1 3 = nI p
    | .inr (n', bs', am') => mI μ' 1 3 = -1 ∧ mI μ' R 2 = nI n' ∧ ∀ j, j < n' → mI μ' B j = bs' j ∧ mI μ' A j = am' j
theorem c_rec {f : Nat → Int32} {e R B A : Nat} (hR : RBA R B A) : ∀ (r n k m : Nat) (μ : p_M) (bs am : Nat → Int32), e - k < r → n ≤ 20 → 21 - n < m → Sh μ → Tx μ f e k → mI μ 1 3 = -1 → isRec μ R B A 20 → mI μ R 2 = nI n → (∀ j, j < n → mI μ B j = bs j ∧ mI μ A j = am j) → ∃ μ', F_X8_read_c20 m R 1 1 (nI n) μ = some (0, μ') ∧ Fq [1, R, B, A] [] μ μ' ∧ cOut e R B A μ' (recP f e r n k bs am) := by
  have R65 : R ≠ 65 ∧ B ≠ 65 ∧ A ≠ 65 := by rcases hR with h | h <;> omega
  have m1 : 1 ∈ [1, R, B, A] ∧ 1 ≠ 65 := ⟨List.mem_cons_self, by decide⟩
  have mR' : R ∈ [1, R, B, A] ∧ R ≠ 65 := ⟨by simp, R65.1⟩
  have mB : B ∈ [1, R, B, A] ∧ B ≠ 65 := ⟨by simp, R65.2.1⟩
  have mA : A ∈ [1, R, B, A] ∧ A ≠ 65 := ⟨by simp, R65.2.2⟩
  have R1 : ¬ R = 1 := by rcases hR with h | h <;> omega
  have B1 : ¬ B = 1 := by rcases hR with h | h <;> omega
  have A1 : ¬ A = 1 := by rcases hR with h | h <;> omega
  have RB : ¬ R = B := by rcases hR with h | h <;> omega
  have RA : ¬ R = A := by rcases hR with h | h <;> omega
  have AB : ¬ A = B := by rcases hR with h | h <;> omega
  have u1R : ¬ 1 = R := fun h => R1 h.symm
  have u1B : ¬ 1 = B := fun h => B1 h.symm
  have u1A : ¬ 1 = A := fun h => A1 h.symm
  have u2R : ¬ 2 = R := by rcases hR with h | h <;> omega
  have u2B : ¬ 2 = B := by rcases hR with h | h <;> omega
  have u2A : ¬ 2 = A := by rcases hR with h | h <;> omega
  have BR : ¬ B = R := fun h => RB h.symm
  have AR : ¬ A = R := fun h => RA h.symm
  have BA : ¬ B = A := fun h => AB h.symm
  intro r
  induction r with
  | zero => intro n k m μ bs am h; omega
  | succ r ih =>
    intro n k m μ bs am hr hn hm hS hT h3 hi hl hJ
    obtain ⟨m, rfl⟩ : ∃ k, m = k + 2 := ⟨m - 2, by omega⟩
    have h4 := hT.2.2.2.1
    have hb := bl_le (f := f) hT.2.2.2.2
    have hw := wd_le (f := f) hT.2.2.2.2
    have hb2 := bl_le (f := f) hw.2
    have g20 : ¬ (20 : Int32) < nI n := (show ¬ nI 20 < nI n from nI_nlt hn (by decide))
    have a1 : nI n + 1 = nI (n + 1) := nI_add n 1
    have stop : ∀ (p : Nat) (k' : Nat), p ≤ e → F_X8_readBath R 1 μ = some (0, sI (cset μ k') 1 3 (nI p)) → ∃ μ', F_X8_read_c20 (m + 2) R 1 1 (nI n) μ = some (0, μ') ∧ Fq [1, R, B, A] [] μ μ' ∧ p ≤ e ∧ mI μ' 1 3 = nI p := by
      intro p k' hp hrb
      have fq : Fq [1, R, B, A] [] μ (sI (cset μ k') 1 3 (nI p)) := Fq_sI (Fq_sI (Fq_refl μ) m1) m1
      have hS2 := Sh_q fq hS
      have e3 : mI (sI (cset μ k') 1 3 (nI p)) 1 3 = nI p := by simp only [mI_sI, mR_sI, mK_sI, mN_sI, mL_sI, mI_sG, mR_sG, mK_sG, mN_sG, mL_sG, mI_sJ, mR_sJ, mK_sJ, mN_sJ, mL_sJ, mI_sA, mR_sA, mK_sA, mN_sA, mL_sA, z_up, ↓reduceIte, reduceIte, Nat.reduceEqDiff, true_and, and_true]
      have d3 : ¬ mI (sI (cset μ k') 1 3 (nI p)) 1 3 = -1 := by rw [e3]; exact nI_n1 (by omega)
      refine ⟨_, ?_, fq, hp, e3⟩
      by_cases g21 : (20 : Int32) < nI (n + 1)
      · simp only [F_X8_read_c20, F_X8_read_c46, bd_some, p_ok, g20, i_10, hi.1, hrb, s_o1 hS2, c_goesOnD hS2 d3, a1, g21, and_self, true_and, ↓reduceIte]
      · simp only [F_X8_read_c20, F_X8_read_c46, bd_some, p_ok, g20, i_10, hi.1, hrb, s_o1 hS2, c_goesOnD hS2 d3, a1, g21, and_self, true_and, ↓reduceIte]
    unfold recP
    split
    · rename_i hx
      obtain ⟨k', hk'⟩ := c_bath_bad hS hT h3 hi hn hl (Or.inr (Or.inl hx))
      rw [if_neg (fun hh => by rw [hx] at hh; exact absurd hh.2 (by decide))] at hk'
      exact stop _ k' (by omega) hk'
    · rename_i x hx
      split
      · rename_i cn
        obtain ⟨k', hk'⟩ := c_bath_bad hS hT h3 hi hn hl (Or.inl cn)
        rw [if_neg (fun hh => by omega)] at hk'
        exact stop _ k' (by omega) hk'
      · rename_i cn
        split
        · rename_i hy
          obtain ⟨k', hk'⟩ := c_bath_bad hS hT h3 hi hn hl (Or.inr (Or.inr ⟨x, hx, hy⟩))
          rw [if_pos ⟨by omega, by rw [hx]; rfl⟩] at hk'
          exact stop _ k' (by omega) hk'
        · rename_i y hy
          have hrb := c_bath_ok hS hT h3 hi (show n < 20 by omega) hl hR hx hy
          have k1le : (if x = 3 then wd f e k else nm f e (wd f e k)) ≤ e ∧ k ≤ (if x = 3 then wd f e k else nm f e (wd f e k)) := by
            have := nm_le (f := f) hw.2
            split <;> omega
          generalize (if x = 3 then wd f e k else nm f e (wd f e k)) = k1 at *
          have hb3 := bl_le (f := f) k1le.1
          have fq : Fq [1, R, B, A] [] μ (sI (sI (sI (cset μ k1) B n (nI x)) A n y) R 2 (nI (n + 1))) := Fq_sI (Fq_sI (Fq_sI (Fq_sI (Fq_refl μ) m1) mB) mA) mR'
          have hT2 : Tx (sI (sI (sI (cset μ k1) B n (nI x)) A n y) R 2 (nI (n + 1))) f e k1 := by
            obtain ⟨t1, t2, t3, t4, t5⟩ := Tx_cset hT k1le.1
            unfold Tx
            simp only [mI_sI, mR_sI, mK_sI, mN_sI, mL_sI, mI_sG, mR_sG, mK_sG, mN_sG, mL_sG, mI_sJ, mR_sJ, mK_sJ, mN_sJ, mL_sJ, mI_sA, mR_sA, mK_sA, mN_sA, mL_sA, z_up, ↓reduceIte, reduceIte, Nat.reduceEqDiff, true_and, and_true, u1R, u1B, u1A, u2R, u2B, u2A]
            exact ⟨t1, t2, t3, t4, t5⟩
          have h32 : mI (sI (sI (sI (cset μ k1) B n (nI x)) A n y) R 2 (nI (n + 1))) 1 3 = -1 := by
            simp only [mI_sI, mR_sI, mK_sI, mN_sI, mL_sI, mI_sG, mR_sG, mK_sG, mN_sG, mL_sG, mI_sJ, mR_sJ, mK_sJ, mN_sJ, mL_sJ, mI_sA, mR_sA, mK_sA, mN_sA, mL_sA, z_up, ↓reduceIte, reduceIte, Nat.reduceEqDiff, true_and, and_true, u1R, u1B, u1A]
            exact mI_cset3.trans h3
          have hl2 : mI (sI (sI (sI (cset μ k1) B n (nI x)) A n y) R 2 (nI (n + 1))) R 2 = nI (n + 1) := by simp only [mI_sI, mR_sI, mK_sI, mN_sI, mL_sI, mI_sG, mR_sG, mK_sG, mN_sG, mL_sG, mI_sJ, mR_sJ, mK_sJ, mN_sJ, mL_sJ, mI_sA, mR_sA, mK_sA, mN_sA, mL_sA, z_up, ↓reduceIte, reduceIte, Nat.reduceEqDiff, true_and, and_true]
          have hJ2 : ∀ j, j < n + 1 → mI (sI (sI (sI (cset μ k1) B n (nI x)) A n y) R 2 (nI (n + 1))) B j = va_up bs n (nI x) j ∧ mI (sI (sI (sI (cset μ k1) B n (nI x)) A n y) R 2 (nI (n + 1))) A j = va_up am n y j := by
            intro j hj
            simp only [mI_sI, mR_sI, mK_sI, mN_sI, mL_sI, mI_sG, mR_sG, mK_sG, mN_sG, mL_sG, mI_sJ, mR_sJ, mK_sJ, mN_sJ, mL_sJ, mI_sA, mR_sA, mK_sA, mN_sA, mL_sA, z_up, ↓reduceIte, reduceIte, Nat.reduceEqDiff, true_and, and_true, BR, BA, AR, AB]
            by_cases c : j = n
            · simp only [c, ↓reduceIte, and_self]
            · rw [if_neg c, if_neg c, if_neg c, if_neg c, mI_csetO B1, mI_csetO A1]
              exact hJ j (by omega)
          have hi2 := isRec_q fq hi
          have hS2 := Sh_q fq hS
          generalize (sI (sI (sI (cset μ k1) B n (nI x)) A n y) R 2 (nI (n + 1))) = μ2 at *
          have gO := c_goesOn hS2 hT2 h32
          split
          · rename_i c5
            rw [if_pos c5] at gO
            split
            · rename_i c6
              rw [if_pos c6] at gO
              have fq2 : Fq [1, R, B, A] [] μ2 (cset μ2 (bl f e k1 + 1)) := Fq_sI (Fq_refl _) m1
              obtain ⟨μ', p1, p2, p3⟩ := ih (n + 1) (bl f e k1 + 1) (m + 1) (cset μ2 (bl f e k1 + 1)) (va_up bs n (nI x)) (va_up am n y) (by omega) (by omega) (by omega) (Sh_cset _ hS2) (Tx_cset hT2 (by omega)) (mI_cset3.trans h32) (isRec_q fq2 hi2) (by rw [mI_csetO R1]; exact hl2) (fun j hj => by rw [mI_csetO B1, mI_csetO A1]; exact hJ2 j hj)
              refine ⟨μ', ?_, Fq_trans fq (Fq_trans fq2 p2), p3⟩
              rw [show m + 2 = (m + 1) + 1 from rfl]
              unfold F_X8_read_c20
              simp only [bd_some, p_ok, g20, i_10, hi.1, hrb, s_o1 hS2, gO, a1, and_self, true_and, ↓reduceIte]
              exact p1
            · rename_i c6
              rw [if_neg c6] at gO
              refine ⟨sI (cset μ2 (bl f e k1)) 1 3 (nI (bl f e k1)), ?_, Fq_trans fq (Fq_sI (Fq_sI (Fq_refl _) m1) m1), by omega, by simp only [mI_sI, mR_sI, mK_sI, mN_sI, mL_sI, mI_sG, mR_sG, mK_sG, mN_sG, mL_sG, mI_sJ, mR_sJ, mK_sJ, mN_sJ, mL_sJ, mI_sA, mR_sA, mK_sA, mN_sA, mL_sA, z_up, ↓reduceIte, reduceIte, Nat.reduceEqDiff, true_and, and_true]⟩
              by_cases g21 : (20 : Int32) < nI (n + 1)
              · simp only [F_X8_read_c20, F_X8_read_c46, bd_some, p_ok, g20, i_10, hi.1, hrb, s_o1 hS2, gO, a1, g21, and_self, true_and, ↓reduceIte]
              · simp only [F_X8_read_c20, F_X8_read_c46, bd_some, p_ok, g20, i_10, hi.1, hrb, s_o1 hS2, gO, a1, g21, and_self, true_and, ↓reduceIte]
          · rename_i c5
            rw [if_neg c5] at gO
            refine ⟨cset μ2 (bl f e k1), ?_, Fq_trans fq (Fq_sI (Fq_refl _) m1), mI_cset3.trans h32, by rw [mI_csetO R1]; exact hl2, fun j hj => by rw [mI_csetO B1, mI_csetO A1]; exact hJ2 j hj⟩
            by_cases g21 : (20 : Int32) < nI (n + 1)
            · simp only [F_X8_read_c20, F_X8_read_c46, bd_some, p_ok, g20, i_10, hi.1, hrb, s_o1 hS2, gO, a1, g21, and_self, true_and, ↓reduceIte]
            · simp only [F_X8_read_c20, F_X8_read_c46, bd_some, p_ok, g20, i_10, hi.1, hrb, s_o1 hS2, gO, a1, g21, and_self, true_and, ↓reduceIte]
