/-! a draw -/
def pu (s k a : Int32) : Int32 := ((s.toInt64 * k.toInt64 + a.toInt64 - 1) / a.toInt64).toInt32
def tk (n : Nat) (b : Int32) : Nat → (Nat → Int32) → (Nat → Int32) → Int32 → Int32 → (Nat → Int32) × (Nat → Int32) × Int32 × Int32
  | 0, l, d, c, a => (l, d, c, a)
  | r + 1, l, d, c, a => if c ≤ 0 ∨ dz l d b n 0 (-1) = -1 then (l, d, c, a) else
    tk n b r (va_up l (dz l d b n 0 (-1)).toNatClampNeg (l (dz l d b n 0 (-1)).toNatClampNeg - (if l (dz l d b n 0 (-1)).toNatClampNeg < c then l (dz l d b n 0 (-1)).toNatClampNeg else c)))
      (va_up d (dz l d b n 0 (-1)).toNatClampNeg (d (dz l d b n 0 (-1)).toNatClampNeg - pu (d (dz l d b n 0 (-1)).toNatClampNeg) (if l (dz l d b n 0 (-1)).toNatClampNeg < c then l (dz l d b n 0 (-1)).toNatClampNeg else c) (l (dz l d b n 0 (-1)).toNatClampNeg)))
      (c - (if l (dz l d b n 0 (-1)).toNatClampNeg < c then l (dz l d b n 0 (-1)).toNatClampNeg else c))
      (a + pu (d (dz l d b n 0 (-1)).toNatClampNeg) (if l (dz l d b n 0 (-1)).toNatClampNeg < c then l (dz l d b n 0 (-1)).toNatClampNeg else c) (l (dz l d b n 0 (-1)).toNatClampNeg))
theorem tk_stop {n : Nat} {b : Int32} {r : Nat} {l d : Nat → Int32} {c a : Int32} (h : c ≤ 0 ∨ dz l d b n 0 (-1) = -1) : tk n b r l d c a = (l, d, c, a) := by
  cases r with
  | zero => rfl
  | succ r => rw [tk, if_pos h]
theorem tk_go {n : Nat} {b : Int32} {r t : Nat} {l d : Nat → Int32} {c a k p : Int32} (h : ¬ c ≤ 0) (ht : t < n) (hn : n ≤ 5) (e : dz l d b n 0 (-1) = nI t) (hk : k = if l t < c then l t else c) (hp : p = pu (d t) k (l t)) : tk n b (r + 1) l d c a = tk n b r (va_up l t (l t - k)) (va_up d t (d t - p)) (c - k) (a + p) := by
  rw [tk, if_neg (fun q => q.elim h (fun z => nI_nm1 (show t < 2 ^ 31 by omega) (e.symm.trans z))), e, nI_clamp (by omega), hp, hk]
theorem c_dirtiest {μ : p_M} (hS : Sh μ) {n : Nat} (hn : n ≤ 5) (e1 : mI μ 30 3 = nI n) (b : Int32) : F_X11_dirtiest 30 b μ = some (dz (mI μ 32) (mI μ 33) b n 0 (-1), μ) := c_dz hS hn e1 n 0 p_fu (-1) (by omega) (show n < 100000 by omega) (Or.inl rfl)
theorem m_dirtiest {μ : p_M} {n : Nat} (hn : n ≤ 5) (e1 : mI μ 65 30 = nI n) (hl : ∀ j, j < 5 → ¬ mI μ 81 j < 0) (b : Int32) : F_X13_dirtiest b μ = some (dz (mI μ 81) (mI μ 82) b n 0 (-1), μ) := m_dz hn e1 hl n 0 p_fu (-1) (by omega) (show n < 100000 by omega) (Or.inl rfl)
/-- the tank found -/
theorem dz_get {l d : Nat → Int32} {b : Int32} {n : Nat} (hn : n ≤ 5) (h : ¬ dz l d b n 0 (-1) = -1) : ∃ t, t < n ∧ dz l d b n 0 (-1) = nI t ∧ bo l d b t := by
  rcases dz_tz (l := l) (d := d) (b := b) (n := n) n 0 (-1) (by omega) (Or.inl rfl) with e | ⟨t, ht, e⟩
  · exact absurd e h
  · exact ⟨t, ht, e, dz_bo hn n 0 (-1) (by omega) (fun k hk q => absurd q.symm (nI_nm1 (by omega))) t ht e⟩
theorem i64_ne0 {x : Int32} (h : 0 < x) : ¬ x.toInt64 = 0 := fun e => by
  have : x.toInt64.toInt = 0 := by rw [e]; rfl
  rw [Int32.toInt_toInt64] at this
  rw [Int32.lt_iff_toInt_lt] at h
  have h0 : (0 : Int32).toInt = 0 := rfl
  omega
theorem c_takeE {ν : p_M} (hS : Sh ν) (c a : Int32) : F_X11_takeOut_c113 30 c a ν = some (a, sI (sI ν 30 5 c) 30 4 (mI ν 30 4 + c)) := by
  simp only [bd_some, p_let_eq, p_ok, mI_sI, mR_sI, mK_sI, mN_sI, mL_sI, mI_sG, mR_sG, mK_sG, mN_sG, mL_sG, mI_sJ, mR_sJ, mK_sJ, mN_sJ, mL_sJ, z_up, ↓reduceIte, and_self, true_and, and_true, false_and, and_false, not_true_eq_false, not_false_eq_true, Nat.reduceEqDiff, i_10, i_20, i_30, w_in, w_need1, w_need0, m_in, m_thr0, m_thr1, tM, aM, nI_1, nI_pred, reduceIte, wp_some, eq_self, bI_T, bI_F, F_X11_takeOut_c113, s_o30 hS]
theorem c_take {n : Nat} (hn : n ≤ 5) {b : Int32} : ∀ (r i m : Nat) (ν : p_M) (c a : Int32), Sh ν → mI ν 30 3 = nI n → i + r = n → r < m → ∃ ν', F_X11_takeOut_c8 m 30 b c a (nI i) ν = some ((tk n b r (mI ν 32) (mI ν 33) c a).2.2.2, ν') ∧ mI ν' 32 = (tk n b r (mI ν 32) (mI ν 33) c a).1 ∧ mI ν' 33 = (tk n b r (mI ν 32) (mI ν 33) c a).2.1 ∧ mI ν' 30 = va_up (va_up (mI ν 30) 5 (tk n b r (mI ν 32) (mI ν 33) c a).2.2.1) 4 (mI ν 30 4 + (tk n b r (mI ν 32) (mI ν 33) c a).2.2.1) ∧ Fq [30, 32, 33] [] ν ν' := by
  intro r
  induction r with
  | zero =>
    intro i m ν c a hS e1 h1 h2
    obtain ⟨m, rfl⟩ : ∃ k, m = k + 1 := ⟨m - 1, by omega⟩
    refine ⟨sI (sI ν 30 5 c) 30 4 (mI ν 30 4 + c), ?_, ?_, ?_, ?_, Fq_sI (Fq_sI (Fq_refl ν) (by decide)) (by decide)⟩
    · rw [F_X11_takeOut_c8, p_okp (s_o30 hS), e1, if_pos (nI_le (by omega) (by omega)), c_takeE hS]
      rfl
    · simp only [mI_sI, mR_sI, mK_sI, mN_sI, mL_sI, mI_sG, mR_sG, mK_sG, mN_sG, mL_sG, mI_sJ, mR_sJ, mK_sJ, mN_sJ, mL_sJ, mI_sA, mR_sA, mK_sA, mN_sA, mL_sA, z_up, ↓reduceIte, reduceIte, Nat.reduceEqDiff, true_and, and_true]; rfl
    · simp only [mI_sI, mR_sI, mK_sI, mN_sI, mL_sI, mI_sG, mR_sG, mK_sG, mN_sG, mL_sG, mI_sJ, mR_sJ, mK_sJ, mN_sJ, mL_sJ, mI_sA, mR_sA, mK_sA, mN_sA, mL_sA, z_up, ↓reduceIte, reduceIte, Nat.reduceEqDiff, true_and, and_true]; rfl
    · simp only [mI_sI, mR_sI, mK_sI, mN_sI, mL_sI, mI_sG, mR_sG, mK_sG, mN_sG, mL_sG, mI_sJ, mR_sJ, mK_sJ, mN_sJ, mL_sJ, mI_sA, mR_sA, mK_sA, mN_sA, mL_sA, z_up, ↓reduceIte, reduceIte, Nat.reduceEqDiff, true_and, and_true]; rfl
  | succ r ih =>
    intro i m ν c a hS e1 h1 h2
    obtain ⟨m, rfl⟩ : ∃ k, m = k + 1 := ⟨m - 1, by omega⟩
    have hz : ¬ nI n ≤ nI i := nI_ge (by omega) (by omega)
    have stop : c ≤ 0 ∨ dz (mI ν 32) (mI ν 33) b n 0 (-1) = -1 → ∃ ν', F_X11_takeOut_c8 (m + 1) 30 b c a (nI i) ν = some ((tk n b (r + 1) (mI ν 32) (mI ν 33) c a).2.2.2, ν') ∧ mI ν' 32 = (tk n b (r + 1) (mI ν 32) (mI ν 33) c a).1 ∧ mI ν' 33 = (tk n b (r + 1) (mI ν 32) (mI ν 33) c a).2.1 ∧ mI ν' 30 = va_up (va_up (mI ν 30) 5 (tk n b (r + 1) (mI ν 32) (mI ν 33) c a).2.2.1) 4 (mI ν 30 4 + (tk n b (r + 1) (mI ν 32) (mI ν 33) c a).2.2.1) ∧ Fq [30, 32, 33] [] ν ν' := fun hs => by
      refine ⟨sI (sI ν 30 5 c) 30 4 (mI ν 30 4 + c), ?_, ?_, ?_, ?_, Fq_sI (Fq_sI (Fq_refl ν) (by decide)) (by decide)⟩
      · rw [tk_stop hs, F_X11_takeOut_c8, p_okp (s_o30 hS), e1, if_neg hz]
        by_cases c0 : c ≤ 0
        · rw [if_pos c0, c_takeE hS]
        · have hd := hs.resolve_left c0
          rw [if_neg c0, c_dirtiest hS hn e1]
          simp only [bd_some, hd, not_true_eq_false, ↓reduceIte]
          rw [c_takeE hS]
      · rw [tk_stop hs]; simp only [mI_sI, mR_sI, mK_sI, mN_sI, mL_sI, mI_sG, mR_sG, mK_sG, mN_sG, mL_sG, mI_sJ, mR_sJ, mK_sJ, mN_sJ, mL_sJ, mI_sA, mR_sA, mK_sA, mN_sA, mL_sA, z_up, ↓reduceIte, reduceIte, Nat.reduceEqDiff, true_and, and_true]
      · rw [tk_stop hs]; simp only [mI_sI, mR_sI, mK_sI, mN_sI, mL_sI, mI_sG, mR_sG, mK_sG, mN_sG, mL_sG, mI_sJ, mR_sJ, mK_sJ, mN_sJ, mL_sJ, mI_sA, mR_sA, mK_sA, mN_sA, mL_sA, z_up, ↓reduceIte, reduceIte, Nat.reduceEqDiff, true_and, and_true]
      · rw [tk_stop hs]; simp only [mI_sI, mR_sI, mK_sI, mN_sI, mL_sI, mI_sG, mR_sG, mK_sG, mN_sG, mL_sG, mI_sJ, mR_sJ, mK_sJ, mN_sJ, mL_sJ, mI_sA, mR_sA, mK_sA, mN_sA, mL_sA, z_up, ↓reduceIte, reduceIte, Nat.reduceEqDiff, true_and, and_true]
    by_cases c0 : c ≤ 0
    · exact stop (Or.inl c0)
    · by_cases hd : dz (mI ν 32) (mI ν 33) b n 0 (-1) = -1
      · exact stop (Or.inr hd)
      · obtain ⟨t, ht, et, hb⟩ := dz_get hn hd
        have hl0 : 0 < mI ν 32 t := hb.1
        have i1 := ix_nI (show t < 5 by omega) (by decide)
        have k1 := nI_clamp (show t < 2 ^ 31 by omega)
        have l1 : t < 5 := by omega
        have z := nI_nm1 (show t < 2 ^ 31 by omega)
        have z6 := i64_ne0 hl0
        generalize hk : (if mI ν 32 t < c then mI ν 32 t else c) = k
        have hpv : F_X11_partUp (mI ν 33 t) k (mI ν 32 t) ν = some (pu (mI ν 33 t) k (mI ν 32 t), ν) := by
          simp only [bd_some, p_let_eq, p_ok, mI_sI, mR_sI, mK_sI, mN_sI, mL_sI, mI_sG, mR_sG, mK_sG, mN_sG, mL_sG, mI_sJ, mR_sJ, mK_sJ, mN_sJ, mL_sJ, z_up, ↓reduceIte, and_self, true_and, and_true, false_and, and_false, not_true_eq_false, not_false_eq_true, Nat.reduceEqDiff, i_10, i_20, i_30, w_in, w_need1, w_need0, m_in, m_thr0, m_thr1, tM, aM, nI_1, nI_pred, reduceIte, wp_some, eq_self, bI_T, bI_F, F_X11_partUp, F_X11_partUp_c22, hl0, z6]
          rfl
        rw [tk_go c0 ht hn et hk.symm rfl]
        generalize hp : pu (mI ν 33 t) k (mI ν 32 t) = p at hpv
        have step : F_X11_takeOut_c8 (m + 1) 30 b c a (nI i) ν = F_X11_takeOut_c8 m 30 b (c - k) (a + p) (nI (i + 1)) (sI (sI ν 32 t (mI ν 32 t - k)) 33 t (mI ν 33 t - p)) := by
          rw [F_X11_takeOut_c8, p_okp (s_o30 hS), e1, if_neg hz, if_neg c0, c_dirtiest hS hn e1]
          simp only [bd_some, p_let_eq, p_ok, mI_sI, mR_sI, mK_sI, mN_sI, mL_sI, mI_sG, mR_sG, mK_sG, mN_sG, mL_sG, mI_sJ, mR_sJ, mK_sJ, mN_sJ, mL_sJ, z_up, ↓reduceIte, and_self, true_and, and_true, false_and, and_false, not_true_eq_false, not_false_eq_true, Nat.reduceEqDiff, i_10, i_20, i_30, w_in, w_need1, w_need0, m_in, m_thr0, m_thr1, tM, aM, nI_1, nI_pred, reduceIte, wp_some, eq_self, bI_T, bI_F, et, z, i1, k1, l1, hk, hpv, s_o30 hS, s_r30_0 hS, s_r30_1 hS, s_r30_2 hS, s_a32 hS, s_l32 hS, s_o32 hS, s_a33 hS, s_l33 hS, s_o33 hS]
        rw [step]
        have hq : Fq [30, 32, 33] [] ν (sI (sI ν 32 t (mI ν 32 t - k)) 33 t (mI ν 33 t - p)) := Fq_sI (Fq_sI (Fq_refl ν) (by decide)) (by decide)
        obtain ⟨ν', g1, g2, g3, g4, g5⟩ := ih (i + 1) m (sI (sI ν 32 t (mI ν 32 t - k)) 33 t (mI ν 33 t - p)) (c - k) (a + p) (Sh_fr (Fq_fr hq) hS) (by simp only [mI_sI, mR_sI, mK_sI, mN_sI, mL_sI, mI_sG, mR_sG, mK_sG, mN_sG, mL_sG, mI_sJ, mR_sJ, mK_sJ, mN_sJ, mL_sJ, mI_sA, mR_sA, mK_sA, mN_sA, mL_sA, z_up, ↓reduceIte, reduceIte, Nat.reduceEqDiff, true_and, and_true]; exact e1) (by omega) (by omega)
        have q32 : mI (sI (sI ν 32 t (mI ν 32 t - k)) 33 t (mI ν 33 t - p)) 32 = va_up (mI ν 32) t (mI ν 32 t - k) := by simp only [mI_sI, mR_sI, mK_sI, mN_sI, mL_sI, mI_sG, mR_sG, mK_sG, mN_sG, mL_sG, mI_sJ, mR_sJ, mK_sJ, mN_sJ, mL_sJ, mI_sA, mR_sA, mK_sA, mN_sA, mL_sA, z_up, ↓reduceIte, reduceIte, Nat.reduceEqDiff, true_and, and_true]
        have q33 : mI (sI (sI ν 32 t (mI ν 32 t - k)) 33 t (mI ν 33 t - p)) 33 = va_up (mI ν 33) t (mI ν 33 t - p) := by simp only [mI_sI, mR_sI, mK_sI, mN_sI, mL_sI, mI_sG, mR_sG, mK_sG, mN_sG, mL_sG, mI_sJ, mR_sJ, mK_sJ, mN_sJ, mL_sJ, mI_sA, mR_sA, mK_sA, mN_sA, mL_sA, z_up, ↓reduceIte, reduceIte, Nat.reduceEqDiff, true_and, and_true]
        have q30 : mI (sI (sI ν 32 t (mI ν 32 t - k)) 33 t (mI ν 33 t - p)) 30 = mI ν 30 := by simp only [mI_sI, mR_sI, mK_sI, mN_sI, mL_sI, mI_sG, mR_sG, mK_sG, mN_sG, mL_sG, mI_sJ, mR_sJ, mK_sJ, mN_sJ, mL_sJ, mI_sA, mR_sA, mK_sA, mN_sA, mL_sA, z_up, ↓reduceIte, reduceIte, Nat.reduceEqDiff, true_and, and_true]
        rw [q32, q33] at g1 g2 g3 g4
        rw [q30] at g4
        exact ⟨ν', g1, g2, g3, g4, Fq_trans hq g5⟩
