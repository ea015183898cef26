/-! quiet changes: numbers of some rows alone -/
def Fq (cs ss : List Nat) (μ μ' : p_M) : Prop := μ'.2 = μ.2 ∧ (∀ a, a ≠ 65 → a ∉ cs → mI μ' a = mI μ a) ∧ (∀ k, k ∉ ss → mI μ' 65 k = mI μ 65 k)
theorem Fq_refl {cs ss : List Nat} (μ : p_M) : Fq cs ss μ μ := ⟨rfl, fun _ _ _ => rfl, fun _ _ => rfl⟩
theorem Fq_sI {cs ss : List Nat} {μ μ1 : p_M} {a k : Nat} {v : Int32} (h : Fq cs ss μ μ1) (ha : a ∈ cs ∧ a ≠ 65) : Fq cs ss μ (sI μ1 a k v) := ⟨h.1, fun b h1 h2 => by
  rw [mI_sI, if_neg (show ¬ b = a from fun e => h2 (e ▸ ha.1))]
  exact h.2.1 b h1 h2, fun j hj => by
  rw [mI_sI, if_neg (fun e => ha.2 e.symm)]
  exact h.2.2 j hj⟩
theorem Fq_s65 {cs ss : List Nat} {μ μ1 : p_M} {k : Nat} {v : Int32} (h : Fq cs ss μ μ1) (hk : k ∈ ss) : Fq cs ss μ (sI μ1 65 k v) := ⟨h.1, fun b h1 h2 => by
  rw [mI_sI, if_neg h1]
  exact h.2.1 b h1 h2, fun j hj => by
  rw [mI_sI, if_pos rfl, z_up, if_neg (show ¬ j = k from fun e => hj (e ▸ hk))]
  exact h.2.2 j hj⟩
theorem Fq_sA {cs ss : List Nat} {μ μ1 : p_M} {a : Nat} {f : Nat → Int32} (h : Fq cs ss μ μ1) (ha : a ∈ cs ∧ a ≠ 65) : Fq cs ss μ (sA μ1 a f) := ⟨h.1, fun b h1 h2 => by
  rw [mI_sA, if_neg (show ¬ b = a from fun e => h2 (e ▸ ha.1))]
  exact h.2.1 b h1 h2, fun j hj => by
  rw [mI_sA, if_neg (fun e => ha.2 e.symm)]
  exact h.2.2 j hj⟩
theorem Fq_trans {cs ss : List Nat} {μ μ1 μ2 : p_M} (h : Fq cs ss μ μ1) (g : Fq cs ss μ1 μ2) : Fq cs ss μ μ2 := ⟨g.1.trans h.1, fun a h1 h2 => (g.2.1 a h1 h2).trans (h.2.1 a h1 h2), fun k hk => (g.2.2 k hk).trans (h.2.2 k hk)⟩
theorem Fq_mono {cs ss cs' ss' : List Nat} {μ μ' : p_M} (f : Fq cs ss μ μ') (h1 : ∀ a, a ∈ cs → a ∈ cs') (h2 : ∀ a, a ∈ ss → a ∈ ss') : Fq cs' ss' μ μ' := ⟨f.1, fun a g1 g2 => f.2.1 a g1 (fun e => g2 (h1 a e)), fun k g => f.2.2 k (fun e => g (h2 k e))⟩
theorem Fq_fr {cs ss : List Nat} {μ μ' : p_M} (f : Fq cs ss μ μ') : Fr cs ss μ μ' := by
  obtain ⟨e, h1, h2⟩ := f
  refine ⟨?_, ?_, ?_, ?_, h1, h2⟩
  · show μ'.2.1 = μ.2.1; rw [e]
  · show μ'.2.2.2.1 = μ.2.2.2.1; rw [e]
  · show μ'.2.2.2.2.1 = μ.2.2.2.2.1; rw [e]
  · show μ'.2.2.2.2.2.1 = μ.2.2.2.2.2.1; rw [e]
theorem Fq_J {cs ss : List Nat} {μ μ' : p_M} (f : Fq cs ss μ μ') : mJ μ' = mJ μ := by show μ'.2.2.1 = μ.2.2.1; rw [f.1]
theorem Fq_C {cs ss : List Nat} {μ μ' : p_M} (f : Fq cs ss μ μ') : mC μ' = mC μ := by show μ'.2.2.2.2.2.2.1 = μ.2.2.2.2.2.2.1; rw [f.1]
theorem Fq_S {cs ss : List Nat} {μ μ' : p_M} (f : Fq cs ss μ μ') : mS μ' = mS μ := by show μ'.2.2.2.2.2.2.2 = μ.2.2.2.2.2.2.2; rw [f.1]
theorem Fq_row {cs ss : List Nat} {μ μ' : p_M} (f : Fq cs ss μ μ') (a : Nat) (h : a ≠ 65 ∧ cs.contains a = false) : mI μ' a = mI μ a := Fr_row (Fq_fr f) a h
theorem Fq_sc {cs ss : List Nat} {μ μ' : p_M} (f : Fq cs ss μ μ') (k : Nat) (h : ss.contains k = false) : mI μ' 65 k = mI μ 65 k := Fr_sc (Fq_fr f) k h
/-! the dirtiest tank -/
abbrev bo (l d : Nat → Int32) (b : Int32) (i : Nat) : Prop := 0 < l i ∧ lg_cmp (100 * (d i).toInt64) (b.toInt64 * (l i).toInt64) ≤ 0
abbrev di (l d : Nat → Int32) (i f : Nat) : Prop := ¬ lg_cmp ((d i).toInt64 * (l f).toInt64) ((d f).toInt64 * (l i).toInt64) ≤ 0
def dz (l d : Nat → Int32) (b : Int32) : Nat → Nat → Int32 → Int32
  | 0, _, f => f
  | r + 1, i, f => dz l d b r (i + 1) (if bo l d b i ∧ (f = -1 ∨ di l d i f.toNatClampNeg) then nI i else f)
/-- -1, or a tank -/
def tz (n : Nat) (f : Int32) : Prop := f = -1 ∨ ∃ k : Nat, k < n ∧ f = nI k
theorem tz_lt {n : Nat} (hn : n < 2 ^ 31) {f : Int32} (h : tz n f) : f < 0 ↔ f = -1 := by
  rcases h with rfl | ⟨k, hk, rfl⟩
  · exact ⟨fun _ => rfl, fun _ => by decide⟩
  · refine ⟨fun e => absurd e (nI_pos (by omega)), fun e => ?_⟩
    have := nI_pos (show k < 2 ^ 31 by omega)
    rw [e] at this
    exact absurd (by decide) this
theorem nI_nm1 {k : Nat} (hk : k < 2 ^ 31) : ¬ nI k = -1 := fun e => by
  have := nI_pos hk
  rw [e] at this
  exact absurd (by decide) this
theorem c_dz {μ : p_M} (hS : Sh μ) {n : Nat} (hn : n ≤ 5) (e1 : mI μ 30 3 = nI n) {b : Int32} : ∀ (r i m : Nat) (f : Int32), i + r = n → r < m → tz n f → F_X11_dirtiest_c4 m 30 b f (nI i) μ = some (dz (mI μ 32) (mI μ 33) b r i f, μ) := by
  intro r
  induction r with
  | zero =>
    intro i m f h1 h2 hf
    obtain ⟨m, rfl⟩ : ∃ k, m = k + 1 := ⟨m - 1, by omega⟩
    rw [F_X11_dirtiest_c4, p_okp (s_o30 hS), e1, if_pos (nI_le (by omega) (by omega))]
    rfl
  | succ r ih =>
    intro i m f h1 h2 hf
    obtain ⟨m, rfl⟩ : ∃ k, m = k + 1 := ⟨m - 1, by omega⟩
    have i1 := ix_nI (show i < 5 by omega) (by decide)
    have k1 := nI_clamp (show i < 2 ^ 31 by omega)
    have l1 : i < 5 := by omega
    have hz : ¬ nI n ≤ nI i := nI_ge (by omega) (by omega)
    have ht : tz n (nI i) := Or.inr ⟨i, by omega, rfl⟩
    rw [dz]
    by_cases c1 : 0 < mI μ 32 i
    · have c1' : ¬ mI μ 32 i ≤ 0 := i_nle.mpr c1
      by_cases c2 : lg_cmp (100 * (mI μ 33 i).toInt64) (b.toInt64 * (mI μ 32 i).toInt64) ≤ 0
      · have c2' : ¬ 0 < lg_cmp (100 * (mI μ 33 i).toInt64) (b.toInt64 * (mI μ 32 i).toInt64) := i_nlt.mpr c2
        rcases hf with rfl | ⟨k, hk, rfl⟩
        · rw [if_pos ⟨⟨c1, c2⟩, Or.inl rfl⟩, F_X11_dirtiest_c4]
          simp only [bd_some, p_let_eq, p_ok, mI_sI, mR_sI, mK_sI, mN_sI, mL_sI, mI_sG, mR_sG, mK_sG, mN_sG, mL_sG, mI_sJ, mR_sJ, mK_sJ, mN_sJ, mL_sJ, z_up, ↓reduceIte, and_self, true_and, and_true, false_and, and_false, not_true_eq_false, not_false_eq_true, Nat.reduceEqDiff, i_10, i_20, i_30, w_in, w_need1, w_need0, m_in, m_thr0, m_thr1, tM, aM, nI_1, nI_pred, reduceIte, wp_some, eq_self, bI_T, bI_F, F_X11_dirtiest_c50, F_X11_dirtiest_c51, F_X11_dirtiest_c72, F_X11_dirtiest_c74, s_o30 hS, s_r30_0 hS, s_r30_1 hS, s_r30_2 hS, s_a32 hS, s_l32 hS, s_o32 hS, s_a33 hS, s_l33 hS, s_o33 hS, e1, hz, i1, k1, l1, c1', c2']
          exact ih (i + 1) m _ (by omega) (by omega) ht
        · have i2 := ix_nI (show k < 5 by omega) (by decide)
          have k2 := nI_clamp (show k < 2 ^ 31 by omega)
          have l2 : k < 5 := by omega
          have z := nI_nm1 (show k < 2 ^ 31 by omega)
          have z0 : (0 : Int32) = 0 ∨ (0 : Int32) = 1 := by decide
          have z1 : (1 : Int32) = 0 ∨ (1 : Int32) = 1 := by decide
          by_cases c3 : lg_cmp ((mI μ 33 i).toInt64 * (mI μ 32 k).toInt64) ((mI μ 33 k).toInt64 * (mI μ 32 i).toInt64) ≤ 0
          · rw [if_neg (fun e => e.2.elim z (fun q => q (by rw [k2]; exact c3))), F_X11_dirtiest_c4]
            simp only [bd_some, p_let_eq, p_ok, mI_sI, mR_sI, mK_sI, mN_sI, mL_sI, mI_sG, mR_sG, mK_sG, mN_sG, mL_sG, mI_sJ, mR_sJ, mK_sJ, mN_sJ, mL_sJ, z_up, ↓reduceIte, and_self, true_and, and_true, false_and, and_false, not_true_eq_false, not_false_eq_true, Nat.reduceEqDiff, i_10, i_20, i_30, w_in, w_need1, w_need0, m_in, m_thr0, m_thr1, tM, aM, nI_1, nI_pred, reduceIte, wp_some, eq_self, bI_T, bI_F, F_X11_dirtiest_c50, F_X11_dirtiest_c51, F_X11_dirtiest_c72, F_X11_dirtiest_c74, F_X11_isDirtier, F_X11_isDirtier_c39, s_o30 hS, s_r30_0 hS, s_r30_1 hS, s_r30_2 hS, s_a32 hS, s_l32 hS, s_o32 hS, s_a33 hS, s_l33 hS, s_o33 hS, e1, hz, i1, k1, l1, i2, k2, l2, c1', c2', c3, z, z0, z1, true_or, or_true]
            exact ih (i + 1) m _ (by omega) (by omega) (Or.inr ⟨k, hk, rfl⟩)
          · rw [if_pos ⟨⟨c1, c2⟩, Or.inr (by rw [k2]; exact c3)⟩, F_X11_dirtiest_c4]
            simp only [bd_some, p_let_eq, p_ok, mI_sI, mR_sI, mK_sI, mN_sI, mL_sI, mI_sG, mR_sG, mK_sG, mN_sG, mL_sG, mI_sJ, mR_sJ, mK_sJ, mN_sJ, mL_sJ, z_up, ↓reduceIte, and_self, true_and, and_true, false_and, and_false, not_true_eq_false, not_false_eq_true, Nat.reduceEqDiff, i_10, i_20, i_30, w_in, w_need1, w_need0, m_in, m_thr0, m_thr1, tM, aM, nI_1, nI_pred, reduceIte, wp_some, eq_self, bI_T, bI_F, F_X11_dirtiest_c50, F_X11_dirtiest_c51, F_X11_dirtiest_c72, F_X11_dirtiest_c74, F_X11_isDirtier, F_X11_isDirtier_c39, s_o30 hS, s_r30_0 hS, s_r30_1 hS, s_r30_2 hS, s_a32 hS, s_l32 hS, s_o32 hS, s_a33 hS, s_l33 hS, s_o33 hS, e1, hz, i1, k1, l1, i2, k2, l2, c1', c2', c3, z, z0, z1, true_or, or_true]
            exact ih (i + 1) m _ (by omega) (by omega) ht
      · have c2' : 0 < lg_cmp (100 * (mI μ 33 i).toInt64) (b.toInt64 * (mI μ 32 i).toInt64) := i_nle.mp c2
        rw [if_neg (fun e => c2 e.1.2), F_X11_dirtiest_c4]
        simp only [bd_some, p_let_eq, p_ok, mI_sI, mR_sI, mK_sI, mN_sI, mL_sI, mI_sG, mR_sG, mK_sG, mN_sG, mL_sG, mI_sJ, mR_sJ, mK_sJ, mN_sJ, mL_sJ, z_up, ↓reduceIte, and_self, true_and, and_true, false_and, and_false, not_true_eq_false, not_false_eq_true, Nat.reduceEqDiff, i_10, i_20, i_30, w_in, w_need1, w_need0, m_in, m_thr0, m_thr1, tM, aM, nI_1, nI_pred, reduceIte, wp_some, eq_self, bI_T, bI_F, F_X11_dirtiest_c50, F_X11_dirtiest_c51, F_X11_dirtiest_c72, F_X11_dirtiest_c74, s_o30 hS, s_r30_0 hS, s_r30_1 hS, s_r30_2 hS, s_a32 hS, s_l32 hS, s_o32 hS, s_a33 hS, s_l33 hS, s_o33 hS, e1, hz, i1, k1, l1, c1', c2']
        exact ih (i + 1) m _ (by omega) (by omega) hf
    · have c1' : mI μ 32 i ≤ 0 := i_nlt.mp c1
      rw [if_neg (fun e => c1 e.1.1), F_X11_dirtiest_c4]
      simp only [bd_some, p_let_eq, p_ok, mI_sI, mR_sI, mK_sI, mN_sI, mL_sI, mI_sG, mR_sG, mK_sG, mN_sG, mL_sG, mI_sJ, mR_sJ, mK_sJ, mN_sJ, mL_sJ, z_up, ↓reduceIte, and_self, true_and, and_true, false_and, and_false, not_true_eq_false, not_false_eq_true, Nat.reduceEqDiff, i_10, i_20, i_30, w_in, w_need1, w_need0, m_in, m_thr0, m_thr1, tM, aM, nI_1, nI_pred, reduceIte, wp_some, eq_self, bI_T, bI_F, F_X11_dirtiest_c50, F_X11_dirtiest_c51, F_X11_dirtiest_c72, F_X11_dirtiest_c74, s_o30 hS, s_r30_0 hS, s_r30_1 hS, s_r30_2 hS, s_a32 hS, s_l32 hS, s_o32 hS, s_a33 hS, s_l33 hS, s_o33 hS, e1, hz, i1, k1, l1, c1']
      exact ih (i + 1) m _ (by omega) (by omega) hf
theorem m_dz {μ : p_M} {n : Nat} (hn : n ≤ 5) (e1 : mI μ 65 30 = nI n) (hl : ∀ j, j < 5 → ¬ mI μ 81 j < 0) {b : Int32} : ∀ (r i m : Nat) (f : Int32), i + r = n → r < m → tz n f → F_X13_dirtiest_c4 m b f (nI i) μ = some (dz (mI μ 81) (mI μ 82) b r i f, μ) := by
  intro r
  induction r with
  | zero =>
    intro i m f h1 h2 hf
    obtain ⟨m, rfl⟩ : ∃ k, m = k + 1 := ⟨m - 1, by omega⟩
    rw [F_X13_dirtiest_c4, show tM = 65 from rfl, e1, if_pos (nI_le (by omega) (by omega))]
    rfl
  | succ r ih =>
    intro i m f h1 h2 hf
    obtain ⟨m, rfl⟩ : ∃ k, m = k + 1 := ⟨m - 1, by omega⟩
    have i1 := ix_nI (show i < 5 by omega) (by decide)
    have k1 := nI_clamp (show i < 2 ^ 31 by omega)
    have l1 : i < 5 := by omega
    have hz : ¬ nI n ≤ nI i := nI_ge (by omega) (by omega)
    have ht : tz n (nI i) := Or.inr ⟨i, by omega, rfl⟩
    rw [dz]
    by_cases c1 : mI μ 81 i = 0
    · rw [if_neg (fun e => by have := e.1.1; rw [c1] at this; exact absurd this (by decide)), F_X13_dirtiest_c4]
      simp only [bd_some, p_let_eq, p_ok, mI_sI, mR_sI, mK_sI, mN_sI, mL_sI, mI_sG, mR_sG, mK_sG, mN_sG, mL_sG, mI_sJ, mR_sJ, mK_sJ, mN_sJ, mL_sJ, z_up, ↓reduceIte, and_self, true_and, and_true, false_and, and_false, not_true_eq_false, not_false_eq_true, Nat.reduceEqDiff, i_10, i_20, i_30, w_in, w_need1, w_need0, m_in, m_thr0, m_thr1, tM, aM, nI_1, nI_pred, reduceIte, wp_some, eq_self, bI_T, bI_F, F_X13_dirtiest_c87, F_X13_dirtiest_c89, e1, hz, i1, k1, l1, c1]
      exact ih (i + 1) m _ (by omega) (by omega) hf
    · have c1' : 0 < mI μ 81 i := by
        have q1 := hl i l1
        have q2 : (mI μ 81 i).toInt ≠ (0 : Int32).toInt := fun e => c1 (Int32.toInt_inj.mp e)
        rw [Int32.lt_iff_toInt_lt] at *
        omega
      have mc : (mI μ 82 i).toInt64 * 100 = 100 * (mI μ 82 i).toInt64 := Int64.mul_comm _ _
      by_cases c2 : lg_cmp (100 * (mI μ 82 i).toInt64) (b.toInt64 * (mI μ 81 i).toInt64) ≤ 0
      · by_cases cf : f < 0
        · have cf' := (tz_lt (by omega) hf).mp cf
          rw [if_pos ⟨⟨c1', c2⟩, Or.inl cf'⟩, F_X13_dirtiest_c4]
          simp only [bd_some, p_let_eq, p_ok, mI_sI, mR_sI, mK_sI, mN_sI, mL_sI, mI_sG, mR_sG, mK_sG, mN_sG, mL_sG, mI_sJ, mR_sJ, mK_sJ, mN_sJ, mL_sJ, z_up, ↓reduceIte, and_self, true_and, and_true, false_and, and_false, not_true_eq_false, not_false_eq_true, Nat.reduceEqDiff, i_10, i_20, i_30, w_in, w_need1, w_need0, m_in, m_thr0, m_thr1, tM, aM, nI_1, nI_pred, reduceIte, wp_some, eq_self, bI_T, bI_F, F_X13_dirtiest_c87, F_X13_dirtiest_c89, e1, hz, i1, k1, l1, c1, mc, c2, cf]
          exact ih (i + 1) m _ (by omega) (by omega) ht
        · rcases hf with rfl | ⟨k, hk, rfl⟩
          · exact absurd (by decide) cf
          have i2 := ix_nI (show k < 5 by omega) (by decide)
          have k2 := nI_clamp (show k < 2 ^ 31 by omega)
          have l2 : k < 5 := by omega
          have z := nI_nm1 (show k < 2 ^ 31 by omega)
          by_cases c3 : lg_cmp ((mI μ 82 i).toInt64 * (mI μ 81 k).toInt64) ((mI μ 82 k).toInt64 * (mI μ 81 i).toInt64) ≤ 0
          · rw [if_neg (fun e => e.2.elim z (fun q => q (by rw [k2]; exact c3))), F_X13_dirtiest_c4]
            simp only [bd_some, p_let_eq, p_ok, mI_sI, mR_sI, mK_sI, mN_sI, mL_sI, mI_sG, mR_sG, mK_sG, mN_sG, mL_sG, mI_sJ, mR_sJ, mK_sJ, mN_sJ, mL_sJ, z_up, ↓reduceIte, and_self, true_and, and_true, false_and, and_false, not_true_eq_false, not_false_eq_true, Nat.reduceEqDiff, i_10, i_20, i_30, w_in, w_need1, w_need0, m_in, m_thr0, m_thr1, tM, aM, nI_1, nI_pred, reduceIte, wp_some, eq_self, bI_T, bI_F, F_X13_dirtiest_c87, F_X13_dirtiest_c89, e1, hz, i1, k1, l1, i2, k2, l2, c1, mc, c2, c3]
            exact ih (i + 1) m _ (by omega) (by omega) (Or.inr ⟨k, hk, rfl⟩)
          · rw [if_pos ⟨⟨c1', c2⟩, Or.inr (by rw [k2]; exact c3)⟩, F_X13_dirtiest_c4]
            simp only [bd_some, p_let_eq, p_ok, mI_sI, mR_sI, mK_sI, mN_sI, mL_sI, mI_sG, mR_sG, mK_sG, mN_sG, mL_sG, mI_sJ, mR_sJ, mK_sJ, mN_sJ, mL_sJ, z_up, ↓reduceIte, and_self, true_and, and_true, false_and, and_false, not_true_eq_false, not_false_eq_true, Nat.reduceEqDiff, i_10, i_20, i_30, w_in, w_need1, w_need0, m_in, m_thr0, m_thr1, tM, aM, nI_1, nI_pred, reduceIte, wp_some, eq_self, bI_T, bI_F, F_X13_dirtiest_c87, F_X13_dirtiest_c89, e1, hz, i1, k1, l1, i2, k2, l2, c1, mc, c2, c3]
            exact ih (i + 1) m _ (by omega) (by omega) ht
      · rw [if_neg (fun e => c2 e.1.2), F_X13_dirtiest_c4]
        simp only [bd_some, p_let_eq, p_ok, mI_sI, mR_sI, mK_sI, mN_sI, mL_sI, mI_sG, mR_sG, mK_sG, mN_sG, mL_sG, mI_sJ, mR_sJ, mK_sJ, mN_sJ, mL_sJ, z_up, ↓reduceIte, and_self, true_and, and_true, false_and, and_false, not_true_eq_false, not_false_eq_true, Nat.reduceEqDiff, i_10, i_20, i_30, w_in, w_need1, w_need0, m_in, m_thr0, m_thr1, tM, aM, nI_1, nI_pred, reduceIte, wp_some, eq_self, bI_T, bI_F, F_X13_dirtiest_c87, F_X13_dirtiest_c89, e1, hz, i1, k1, l1, c1, mc, c2]
        exact ih (i + 1) m _ (by omega) (by omega) hf
theorem dz_tz {l d : Nat → Int32} {b : Int32} {n : Nat} : ∀ (r i : Nat) (f : Int32), i + r = n → tz n f → tz n (dz l d b r i f) := by
  intro r
  induction r with
  | zero => intro i f _ hf; exact hf
  | succ r ih =>
    intro i f h hf
    rw [dz]
    refine ih (i + 1) _ (by omega) ?_
    split
    · exact Or.inr ⟨i, by omega, rfl⟩
    · exact hf
/-- the tank that is found bears it -/
theorem dz_bo {l d : Nat → Int32} {b : Int32} {n : Nat} (hn : n ≤ 5) : ∀ (r i : Nat) (f : Int32), i + r = n → (∀ k, k < n → f = nI k → bo l d b k) → ∀ k, k < n → dz l d b r i f = nI k → bo l d b k := by
  intro r
  induction r with
  | zero => intro i f _ hf; exact hf
  | succ r ih =>
    intro i f h hf
    rw [dz]
    refine ih (i + 1) _ (by omega) ?_
    intro k hk e
    split at e
    · rename_i c
      have := (nI_eq (show i < 2 ^ 31 by omega) (show k < 2 ^ 31 by omega)).mp e
      subst this
      exact c.1
    · exact hf k hk e
