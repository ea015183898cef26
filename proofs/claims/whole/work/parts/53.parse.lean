/-! reading a text: both sides by the same plain functions -/
theorem sI_sI (μ : p_M) (a k : Nat) (v w : Int32) : sI (sI μ a k v) a k w = sI μ a k w := by
  show (p_up (p_up μ.1 a k v) a k w, μ.2) = (p_up μ.1 a k w, μ.2)
  congr 1
  funext b j
  show va_up (va_up μ.1 a (va_up (μ.1 a) k v)) a (va_up (va_up μ.1 a (va_up (μ.1 a) k v) a) k w) b j = va_up μ.1 a (va_up (μ.1 a) k w) b j
  by_cases c : b = a
  · subst c
    simp only [z_up, ↓reduceIte]
    by_cases d : j = k
    · rw [if_pos d, if_pos d]
    · rw [if_neg d, if_neg d, if_neg d]
  · simp only [z_up, c, ↓reduceIte]
theorem sI_self (μ : p_M) (a k : Nat) : sI μ a k (mI μ a k) = μ := by
  show (p_up μ.1 a k (μ.1 a k), μ.2) = (μ.1, μ.2)
  congr 1
  funext b j
  show va_up μ.1 a (va_up (μ.1 a) k (μ.1 a k)) b j = μ.1 b j
  by_cases c : b = a
  · subst c
    simp only [z_up, ↓reduceIte]
    by_cases d : j = k
    · rw [if_pos d, d]
    · rw [if_neg d]
  · simp only [z_up, c, ↓reduceIte]
theorem sI_comm (μ : p_M) (a k b l : Nat) (v w : Int32) (h : a ≠ b ∨ k ≠ l) : sI (sI μ a k v) b l w = sI (sI μ b l w) a k v := by
  show (p_up (p_up μ.1 a k v) b l w, μ.2) = (p_up (p_up μ.1 b l w) a k v, μ.2)
  congr 1
  funext c j
  show va_up (va_up μ.1 a (va_up (μ.1 a) k v)) b (va_up (va_up μ.1 a (va_up (μ.1 a) k v) b) l w) c j = va_up (va_up μ.1 b (va_up (μ.1 b) l w)) a (va_up (va_up μ.1 b (va_up (μ.1 b) l w) a) k v) c j
  by_cases e : a = b
  · subst e
    have hkl : k ≠ l := h.resolve_left (fun e => e rfl)
    by_cases c1 : c = a
    · subst c1
      simp only [z_up, ↓reduceIte]
      by_cases d : j = k
      · subst d
        rw [if_neg hkl, if_pos rfl, if_pos rfl]
      · rw [if_neg d, if_neg d]
    · simp only [z_up, c1, ↓reduceIte]
  · by_cases c1 : c = a
    · subst c1
      simp only [z_up, e, ↓reduceIte]
    · by_cases c2 : c = b
      · subst c2
        have e2 : ¬ c = a := c1
        have e3 : ¬ a = c := e
        simp only [z_up, e2, e3, ↓reduceIte]
      · simp only [z_up, c1, c2, ↓reduceIte]
def isA (lo hi x : Int32) : Bool := decide (lo ≤ x ∧ x ≤ hi)
theorem isA_one (lo x : Int32) : (isA lo lo x = true) = (x = lo) := by
  apply propext
  unfold isA
  rw [decide_eq_true_eq]
  constructor
  · intro h
    have h1 := Int32.le_iff_toInt_le.mp h.1
    have h2 := Int32.le_iff_toInt_le.mp h.2
    exact Int32.toInt_inj.mp (by omega)
  · intro h
    subst h
    exact ⟨Int32.le_iff_toInt_le.mpr (Int.le_refl _), Int32.le_iff_toInt_le.mpr (Int.le_refl _)⟩
def skr (p : Int32 → Bool) (f : Nat → Int32) : Nat → Nat → Nat
  | 0, k => k
  | r + 1, k => if p (f k) = true then skr p f r (k + 1) else k
/-- the first place from k on that is not such, or the end -/
def skp (p : Int32 → Bool) (f : Nat → Int32) (e k : Nat) : Nat := skr p f (e - k) k
theorem skp_end {p : Int32 → Bool} {f : Nat → Int32} {e k : Nat} (h : e ≤ k) : skp p f e k = k := by
  unfold skp
  rw [show e - k = 0 by omega]
  rfl
theorem skp_eq {p : Int32 → Bool} {f : Nat → Int32} {e k : Nat} (h : k < e) : skp p f e k = if p (f k) = true then skp p f e (k + 1) else k := by
  unfold skp
  obtain ⟨r, hr⟩ : ∃ r, e - k = r + 1 := ⟨e - k - 1, by omega⟩
  rw [hr, show e - (k + 1) = r by omega]
  rfl
theorem skp_b {p : Int32 → Bool} {f : Nat → Int32} {e : Nat} : ∀ (r k : Nat), e - k = r → k ≤ e → k ≤ skp p f e k ∧ skp p f e k ≤ e := by
  intro r
  induction r with
  | zero =>
    intro k h1 h2
    rw [skp_end (by omega)]
    exact ⟨Nat.le_refl _, h2⟩
  | succ r ih =>
    intro k h1 h2
    rw [skp_eq (by omega)]
    split
    · have := ih (k + 1) (by omega) (by omega)
      omega
    · omega
theorem skp_ge {p : Int32 → Bool} {f : Nat → Int32} {e k : Nat} (h : k ≤ e) : k ≤ skp p f e k := (skp_b (e - k) k rfl h).1
theorem skp_le {p : Int32 → Bool} {f : Nat → Int32} {e k : Nat} (h : k ≤ e) : skp p f e k ≤ e := (skp_b (e - k) k rfl h).2
/-- the class's text, read up to k -/
def Tx (μ : p_M) (f : Nat → Int32) (e k : Nat) : Prop := mI μ 2 = f ∧ mI μ 1 1 = nI e ∧ mI μ 1 2 = nI k ∧ e ≤ 400 ∧ k ≤ e
def cset (μ : p_M) (k : Nat) : p_M := sI μ 1 2 (nI k)
theorem cset_cset (μ : p_M) (k l : Nat) : cset (cset μ k) l = cset μ l := sI_sI μ 1 2 _ _
theorem cset_self {μ : p_M} {k : Nat} (h : mI μ 1 2 = nI k) : cset μ k = μ := by unfold cset; rw [← h]; exact sI_self μ 1 2
theorem Tx_cset {μ : p_M} {f : Nat → Int32} {e k l : Nat} (h : Tx μ f e k) (hl : l ≤ e) : Tx (cset μ l) f e l := by
  obtain ⟨h1, h2, h3, h4, h5⟩ := h
  unfold Tx cset
  simp only [mI_sI, mR_sI, mK_sI, mN_sI, mL_sI, mI_sG, mR_sG, mK_sG, mN_sG, mL_sG, mI_sJ, mR_sJ, mK_sJ, mN_sJ, mL_sJ, mI_sA, mR_sA, mK_sA, mN_sA, mL_sA, z_up, ↓reduceIte, reduceIte, Nat.reduceEqDiff, true_and, and_true]
  exact ⟨h1, h2, h4, hl⟩
theorem Fq_cset {μ : p_M} (l : Nat) : Fq [1] [] μ (cset μ l) := Fq_sI (Fq_refl μ) (by decide)
theorem Sh_cset {μ : p_M} (l : Nat) (h : Sh μ) : Sh (cset μ l) := Sh_q (Fq_cset l) h
theorem mI_cset3 {μ : p_M} {l : Nat} : mI (cset μ l) 1 3 = mI μ 1 3 := by unfold cset; simp only [mI_sI, mR_sI, mK_sI, mN_sI, mL_sI, mI_sG, mR_sG, mK_sG, mN_sG, mL_sG, mI_sJ, mR_sJ, mK_sJ, mN_sJ, mL_sJ, mI_sA, mR_sA, mK_sA, mN_sA, mL_sA, z_up, ↓reduceIte, reduceIte, Nat.reduceEqDiff, true_and, and_true]
theorem mI_cset2 {μ : p_M} {l : Nat} : mI (cset μ l) 1 2 = nI l := by unfold cset; simp only [mI_sI, mR_sI, mK_sI, mN_sI, mL_sI, mI_sG, mR_sG, mK_sG, mN_sG, mL_sG, mI_sJ, mR_sJ, mK_sJ, mN_sJ, mL_sJ, mI_sA, mR_sA, mK_sA, mN_sA, mL_sA, z_up, ↓reduceIte, reduceIte, Nat.reduceEqDiff, true_and, and_true]
theorem mI_cset1 {μ : p_M} {l : Nat} : mI (cset μ l) 1 1 = mI μ 1 1 := by unfold cset; simp only [mI_sI, mR_sI, mK_sI, mN_sI, mL_sI, mI_sG, mR_sG, mK_sG, mN_sG, mL_sG, mI_sJ, mR_sJ, mK_sJ, mN_sJ, mL_sJ, mI_sA, mR_sA, mK_sA, mN_sA, mL_sA, z_up, ↓reduceIte, reduceIte, Nat.reduceEqDiff, true_and, and_true]
theorem mI_csetO {μ : p_M} {l a : Nat} (h : a ≠ 1) : mI (cset μ l) a = mI μ a := by unfold cset; rw [mI_sI, if_neg h]
theorem c_skip {f : Nat → Int32} {e : Nat} : ∀ (r k m : Nat) (μ : p_M), e - k = r → r < m → Sh μ → Tx μ f e k → F_X10_skipBlanks_c0 m 1 μ = some (0, cset μ (skp (isA 32 32) f e k)) := by
  intro r
  induction r with
  | zero =>
    intro k m μ hk hm hS hT
    obtain ⟨m, rfl⟩ : ∃ k, m = k + 1 := ⟨m - 1, by omega⟩
    obtain ⟨t1, t2, t3, t4, t5⟩ := hT
    have c1 : nI e ≤ nI k := nI_le (by omega) (by omega)
    rw [skp_end (by omega), cset_self t3]
    simp only [bd_some, p_let_eq, p_ok, mI_sI, mR_sI, mK_sI, mN_sI, mL_sI, mI_sG, mR_sG, mK_sG, mN_sG, mL_sG, mI_sJ, mR_sJ, mK_sJ, mN_sJ, mL_sJ, z_up, ↓reduceIte, and_self, true_and, and_true, false_and, and_false, not_true_eq_false, not_false_eq_true, Nat.reduceEqDiff, i_10, i_20, i_30, w_in, w_need1, w_need0, m_in, m_thr0, m_thr1, tM, aM, nI_1, nI_pred, reduceIte, wp_some, eq_self, bI_T, bI_F, F_X10_skipBlanks_c0, F_X10_skipBlanks_c38, s_o1 hS, s_r1_0 hS, t2, t3, c1]
  | succ r ih =>
    intro k m μ hk hm hS hT
    obtain ⟨m, rfl⟩ : ∃ k, m = k + 1 := ⟨m - 1, by omega⟩
    have hT0 := hT
    obtain ⟨t1, t2, t3, t4, t5⟩ := hT
    have c1 : ¬ nI e ≤ nI k := nI_ge (by omega) (by omega)
    have i1 := ix_nI (show k < 400 by omega) (by decide)
    have k1 := nI_clamp (show k < 2 ^ 31 by omega)
    have l1 : k < 400 := by omega
    have a1 : nI k + 1 = nI (k + 1) := nI_add k 1
    rw [skp_eq (by omega)]
    simp only [isA_one]
    by_cases c : f k = 32
    · rw [if_pos c]
      have := ih (k + 1) m (cset μ (k + 1)) (by omega) (by omega) (Sh_cset _ hS) (Tx_cset hT0 (by omega))
      rw [cset_cset] at this
      simp only [bd_some, p_let_eq, p_ok, mI_sI, mR_sI, mK_sI, mN_sI, mL_sI, mI_sG, mR_sG, mK_sG, mN_sG, mL_sG, mI_sJ, mR_sJ, mK_sJ, mN_sJ, mL_sJ, z_up, ↓reduceIte, and_self, true_and, and_true, false_and, and_false, not_true_eq_false, not_false_eq_true, Nat.reduceEqDiff, i_10, i_20, i_30, w_in, w_need1, w_need0, m_in, m_thr0, m_thr1, tM, aM, nI_1, nI_pred, reduceIte, wp_some, eq_self, bI_T, bI_F, F_X10_skipBlanks_c0, F_X10_skipBlanks_c38, s_o1 hS, s_r1_0 hS, s_a2 hS, s_l2 hS, s_o2 hS, t1, t2, t3, c1, i1, k1, l1, c, a1]
      exact this
    · rw [if_neg c, cset_self t3]
      simp only [bd_some, p_let_eq, p_ok, mI_sI, mR_sI, mK_sI, mN_sI, mL_sI, mI_sG, mR_sG, mK_sG, mN_sG, mL_sG, mI_sJ, mR_sJ, mK_sJ, mN_sJ, mL_sJ, z_up, ↓reduceIte, and_self, true_and, and_true, false_and, and_false, not_true_eq_false, not_false_eq_true, Nat.reduceEqDiff, i_10, i_20, i_30, w_in, w_need1, w_need0, m_in, m_thr0, m_thr1, tM, aM, nI_1, nI_pred, reduceIte, wp_some, eq_self, bI_T, bI_F, F_X10_skipBlanks_c0, F_X10_skipBlanks_c38, s_o1 hS, s_r1_0 hS, s_a2 hS, s_l2 hS, s_o2 hS, t1, t2, t3, c1, i1, k1, l1, c]
theorem c_skip' {f : Nat → Int32} {e k : Nat} {μ : p_M} (hS : Sh μ) (hT : Tx μ f e k) : F_X10_skipBlanks 1 μ = some (0, cset μ (skp (isA 32 32) f e k)) := c_skip (e - k) k p_fu μ rfl (by have := hT.2.2.2.1; rw [show p_fu = 99999 + 1 from rfl]; omega) hS hT
theorem c_word {f : Nat → Int32} {e W b : Nat} : ∀ (r k m : Nat) (μ : p_M), e - k = r → r < m → Sh μ → Tx μ f e k → F_X10_pick_c19 m 1 W (nI b) μ = F_X10_pick_c71 1 W (nI b) (cset μ (skp (isA 97 122) f e k)) := by
  intro r
  induction r with
  | zero =>
    intro k m μ hk hm hS hT
    obtain ⟨m, rfl⟩ : ∃ k, m = k + 1 := ⟨m - 1, by omega⟩
    obtain ⟨t1, t2, t3, t4, t5⟩ := hT
    have c1 : nI e ≤ nI k := nI_le (by omega) (by omega)
    rw [skp_end (by omega), cset_self t3]
    simp only [bd_some, p_let_eq, p_ok, mI_sI, mR_sI, mK_sI, mN_sI, mL_sI, mI_sG, mR_sG, mK_sG, mN_sG, mL_sG, mI_sJ, mR_sJ, mK_sJ, mN_sJ, mL_sJ, z_up, ↓reduceIte, and_self, true_and, and_true, false_and, and_false, not_true_eq_false, not_false_eq_true, Nat.reduceEqDiff, i_10, i_20, i_30, w_in, w_need1, w_need0, m_in, m_thr0, m_thr1, tM, aM, nI_1, nI_pred, reduceIte, wp_some, eq_self, bI_T, bI_F, F_X10_pick_c19, s_o1 hS, s_r1_0 hS, t2, t3, c1]
  | succ r ih =>
    intro k m μ hk hm hS hT
    obtain ⟨m, rfl⟩ : ∃ k, m = k + 1 := ⟨m - 1, by omega⟩
    have hT0 := hT
    obtain ⟨t1, t2, t3, t4, t5⟩ := hT
    have c1 : ¬ nI e ≤ nI k := nI_ge (by omega) (by omega)
    have i1 := ix_nI (show k < 400 by omega) (by decide)
    have k1 := nI_clamp (show k < 2 ^ 31 by omega)
    have l1 : k < 400 := by omega
    have a1 : nI k + 1 = nI (k + 1) := nI_add k 1
    rw [skp_eq (by omega)]
    by_cases c2 : f k < 97
    · have c : ¬ isA 97 122 (f k) = true := fun h => by
        unfold isA at h; rw [decide_eq_true_eq] at h; exact i_nle.mpr c2 h.1
      rw [if_neg c, cset_self t3]
      simp only [bd_some, p_let_eq, p_ok, mI_sI, mR_sI, mK_sI, mN_sI, mL_sI, mI_sG, mR_sG, mK_sG, mN_sG, mL_sG, mI_sJ, mR_sJ, mK_sJ, mN_sJ, mL_sJ, z_up, ↓reduceIte, and_self, true_and, and_true, false_and, and_false, not_true_eq_false, not_false_eq_true, Nat.reduceEqDiff, i_10, i_20, i_30, w_in, w_need1, w_need0, m_in, m_thr0, m_thr1, tM, aM, nI_1, nI_pred, reduceIte, wp_some, eq_self, bI_T, bI_F, F_X10_pick_c19, s_o1 hS, s_r1_0 hS, s_a2 hS, s_l2 hS, s_o2 hS, t1, t2, t3, c1, i1, k1, l1, c2]
    · by_cases c3 : 122 < f k
      · have c : ¬ isA 97 122 (f k) = true := fun h => by
          unfold isA at h; rw [decide_eq_true_eq] at h; exact i_nle.mpr c3 h.2
        rw [if_neg c, cset_self t3]
        simp only [bd_some, p_let_eq, p_ok, mI_sI, mR_sI, mK_sI, mN_sI, mL_sI, mI_sG, mR_sG, mK_sG, mN_sG, mL_sG, mI_sJ, mR_sJ, mK_sJ, mN_sJ, mL_sJ, z_up, ↓reduceIte, and_self, true_and, and_true, false_and, and_false, not_true_eq_false, not_false_eq_true, Nat.reduceEqDiff, i_10, i_20, i_30, w_in, w_need1, w_need0, m_in, m_thr0, m_thr1, tM, aM, nI_1, nI_pred, reduceIte, wp_some, eq_self, bI_T, bI_F, F_X10_pick_c19, s_o1 hS, s_r1_0 hS, s_a2 hS, s_l2 hS, s_o2 hS, t1, t2, t3, c1, i1, k1, l1, c2, c3]
      · have c : isA 97 122 (f k) = true := by
          unfold isA; rw [decide_eq_true_eq]; exact ⟨i_nlt.mp c2, i_nlt.mp c3⟩
        rw [if_pos c]
        have := ih (k + 1) m (cset μ (k + 1)) (by omega) (by omega) (Sh_cset _ hS) (Tx_cset hT0 (by omega))
        rw [cset_cset] at this
        simp only [bd_some, p_let_eq, p_ok, mI_sI, mR_sI, mK_sI, mN_sI, mL_sI, mI_sG, mR_sG, mK_sG, mN_sG, mL_sG, mI_sJ, mR_sJ, mK_sJ, mN_sJ, mL_sJ, z_up, ↓reduceIte, and_self, true_and, and_true, false_and, and_false, not_true_eq_false, not_false_eq_true, Nat.reduceEqDiff, i_10, i_20, i_30, w_in, w_need1, w_need0, m_in, m_thr0, m_thr1, tM, aM, nI_1, nI_pred, reduceIte, wp_some, eq_self, bI_T, bI_F, F_X10_pick_c19, s_o1 hS, s_r1_0 hS, s_a2 hS, s_l2 hS, s_o2 hS, t1, t2, t3, c1, i1, k1, l1, c2, c3, a1]
        exact this
/-- the number's value -/
def nvl (f : Nat → Int32) (b g : Nat) : Nat → Nat → Int32 → Int32
  | 0, _, v => v
  | r + 1, k, v => if isA 48 57 (f k) = true then nvl f b g r (k + 1) (if k - b < g then 10 * v + f k - 48 else v) else v
theorem nv_eq (v x : Int32) : v * 10 + (x - 48) = 10 * v + x - 48 := by
  rw [Int32.mul_comm, Int32.sub_eq_add_neg, Int32.sub_eq_add_neg, Int32.add_assoc]
theorem c_num {f : Nat → Int32} {e b g : Nat} (hg : g < 2 ^ 30) (lo hi : Int32) : ∀ (r k m : Nat) (v : Int32) (μ : p_M), e - k = r → r < m → b ≤ k → Sh μ → Tx μ f e k → F_X10_number_c23 m 1 (nI g) lo hi (nI b) v μ = F_X10_number_c106 1 (nI g) lo hi (nI b) (nvl f b g r k v) (cset μ (skp (isA 48 57) f e k)) := by
  intro r
  induction r with
  | zero =>
    intro k m v μ hk hm hb hS hT
    obtain ⟨m, rfl⟩ : ∃ k, m = k + 1 := ⟨m - 1, by omega⟩
    obtain ⟨t1, t2, t3, t4, t5⟩ := hT
    have c1 : nI e ≤ nI k := nI_le (by omega) (by omega)
    rw [skp_end (by omega), cset_self t3]
    simp only [bd_some, p_let_eq, p_ok, mI_sI, mR_sI, mK_sI, mN_sI, mL_sI, mI_sG, mR_sG, mK_sG, mN_sG, mL_sG, mI_sJ, mR_sJ, mK_sJ, mN_sJ, mL_sJ, z_up, ↓reduceIte, and_self, true_and, and_true, false_and, and_false, not_true_eq_false, not_false_eq_true, Nat.reduceEqDiff, i_10, i_20, i_30, w_in, w_need1, w_need0, m_in, m_thr0, m_thr1, tM, aM, nI_1, nI_pred, reduceIte, wp_some, eq_self, bI_T, bI_F, F_X10_number_c23, s_o1 hS, s_r1_0 hS, t2, t3, c1, nvl]
  | succ r ih =>
    intro k m v μ hk hm hb hS hT
    obtain ⟨m, rfl⟩ : ∃ k, m = k + 1 := ⟨m - 1, by omega⟩
    have hT0 := hT
    obtain ⟨t1, t2, t3, t4, t5⟩ := hT
    have c1 : ¬ nI e ≤ nI k := nI_ge (by omega) (by omega)
    have i1 := ix_nI (show k < 400 by omega) (by decide)
    have k1 := nI_clamp (show k < 2 ^ 31 by omega)
    have l1 : k < 400 := by omega
    have a1 : nI k + 1 = nI (k + 1) := nI_add k 1
    have s1 : nI k - nI b = nI (k - b) := pk_sub hb
    rw [skp_eq (by omega)]
    unfold nvl
    by_cases c2 : f k < 48
    · have c : ¬ isA 48 57 (f k) = true := fun h => by
        unfold isA at h; rw [decide_eq_true_eq] at h; exact i_nle.mpr c2 h.1
      rw [if_neg c, if_neg c, cset_self t3]
      simp only [bd_some, p_let_eq, p_ok, mI_sI, mR_sI, mK_sI, mN_sI, mL_sI, mI_sG, mR_sG, mK_sG, mN_sG, mL_sG, mI_sJ, mR_sJ, mK_sJ, mN_sJ, mL_sJ, z_up, ↓reduceIte, and_self, true_and, and_true, false_and, and_false, not_true_eq_false, not_false_eq_true, Nat.reduceEqDiff, i_10, i_20, i_30, w_in, w_need1, w_need0, m_in, m_thr0, m_thr1, tM, aM, nI_1, nI_pred, reduceIte, wp_some, eq_self, bI_T, bI_F, F_X10_number_c23, s_o1 hS, s_r1_0 hS, s_a2 hS, s_l2 hS, s_o2 hS, t1, t2, t3, c1, i1, k1, l1, c2]
    · by_cases c3 : 57 < f k
      · have c : ¬ isA 48 57 (f k) = true := fun h => by
          unfold isA at h; rw [decide_eq_true_eq] at h; exact i_nle.mpr c3 h.2
        rw [if_neg c, if_neg c, cset_self t3]
        simp only [bd_some, p_let_eq, p_ok, mI_sI, mR_sI, mK_sI, mN_sI, mL_sI, mI_sG, mR_sG, mK_sG, mN_sG, mL_sG, mI_sJ, mR_sJ, mK_sJ, mN_sJ, mL_sJ, z_up, ↓reduceIte, and_self, true_and, and_true, false_and, and_false, not_true_eq_false, not_false_eq_true, Nat.reduceEqDiff, i_10, i_20, i_30, w_in, w_need1, w_need0, m_in, m_thr0, m_thr1, tM, aM, nI_1, nI_pred, reduceIte, wp_some, eq_self, bI_T, bI_F, F_X10_number_c23, s_o1 hS, s_r1_0 hS, s_a2 hS, s_l2 hS, s_o2 hS, t1, t2, t3, c1, i1, k1, l1, c2, c3]
      · have c : isA 48 57 (f k) = true := by
          unfold isA; rw [decide_eq_true_eq]; exact ⟨i_nlt.mp c2, i_nlt.mp c3⟩
        rw [if_pos c, if_pos c]
        have ih := fun v => ih (k + 1) m v (cset μ (k + 1)) (by omega) (by omega) (by omega) (Sh_cset _ hS) (Tx_cset hT0 (by omega))
        simp only [cset_cset] at ih
        by_cases c4 : k - b < g
        · have c5 : ¬ nI g ≤ nI (k - b) := nI_ge c4 (by omega)
          rw [if_pos c4]
          simp only [bd_some, p_let_eq, p_ok, mI_sI, mR_sI, mK_sI, mN_sI, mL_sI, mI_sG, mR_sG, mK_sG, mN_sG, mL_sG, mI_sJ, mR_sJ, mK_sJ, mN_sJ, mL_sJ, z_up, ↓reduceIte, and_self, true_and, and_true, false_and, and_false, not_true_eq_false, not_false_eq_true, Nat.reduceEqDiff, i_10, i_20, i_30, w_in, w_need1, w_need0, m_in, m_thr0, m_thr1, tM, aM, nI_1, nI_pred, reduceIte, wp_some, eq_self, bI_T, bI_F, F_X10_number_c23, F_X10_number_c93, s_o1 hS, s_r1_0 hS, s_a2 hS, s_l2 hS, s_o2 hS, t1, t2, t3, c1, i1, k1, l1, c2, c3, a1, s1, c5, nv_eq]
          exact ih _
        · have c5 : nI g ≤ nI (k - b) := nI_le (by omega) (by omega)
          rw [if_neg c4]
          simp only [bd_some, p_let_eq, p_ok, mI_sI, mR_sI, mK_sI, mN_sI, mL_sI, mI_sG, mR_sG, mK_sG, mN_sG, mL_sG, mI_sJ, mR_sJ, mK_sJ, mN_sJ, mL_sJ, z_up, ↓reduceIte, and_self, true_and, and_true, false_and, and_false, not_true_eq_false, not_false_eq_true, Nat.reduceEqDiff, i_10, i_20, i_30, w_in, w_need1, w_need0, m_in, m_thr0, m_thr1, tM, aM, nI_1, nI_pred, reduceIte, wp_some, eq_self, bI_T, bI_F, F_X10_number_c23, F_X10_number_c93, s_o1 hS, s_r1_0 hS, s_a2 hS, s_l2 hS, s_o2 hS, t1, t2, t3, c1, i1, k1, l1, c2, c3, a1, s1, c5]
          exact ih _
/-! the Model's text -/
def MT (μ : p_M) (f : Nat → Int32) (e k : Nat) : Prop := mI μ 66 = f ∧ mI μ 65 4 = nI e ∧ mI μ 65 3 = nI k ∧ e ≤ 400 ∧ k ≤ e
def mset (μ : p_M) (k b : Nat) : p_M := sI (sI μ 65 3 (nI k)) 65 5 (nI b)
theorem mset_mset (μ : p_M) (k b k' b' : Nat) : mset (mset μ k b) k' b' = mset μ k' b' := by
  unfold mset
  rw [sI_comm (sI μ 65 3 (nI k)) 65 5 65 3 _ _ (Or.inr (by decide)), sI_sI, sI_sI]
theorem mset_3 (μ : p_M) (k b k' : Nat) : sI (mset μ k b) 65 3 (nI k') = mset μ k' b := by
  unfold mset
  rw [sI_comm (sI μ 65 3 (nI k)) 65 5 65 3 _ _ (Or.inr (by decide)), sI_sI]
theorem mset_5 (μ : p_M) (k b b' : Nat) : sI (mset μ k b) 65 5 (nI b') = mset μ k b' := by
  unfold mset
  rw [sI_sI]
theorem mset_self {μ : p_M} {k b : Nat} (h3 : mI μ 65 3 = nI k) (h5 : mI μ 65 5 = nI b) : mset μ k b = μ := by
  unfold mset
  rw [← h3, sI_self, ← h5, sI_self]
theorem MT_mset {μ : p_M} {f : Nat → Int32} {e k l b : Nat} (h : MT μ f e k) (hl : l ≤ e) : MT (mset μ l b) f e l := by
  obtain ⟨h1, h2, h3, h4, h5⟩ := h
  unfold MT mset
  simp only [mI_sI, mR_sI, mK_sI, mN_sI, mL_sI, mI_sG, mR_sG, mK_sG, mN_sG, mL_sG, mI_sJ, mR_sJ, mK_sJ, mN_sJ, mL_sJ, mI_sA, mR_sA, mK_sA, mN_sA, mL_sA, z_up, ↓reduceIte, reduceIte, Nat.reduceEqDiff, true_and, and_true]
  exact ⟨h1, h2, h4, hl⟩
theorem mI_mset5 {μ : p_M} {k b : Nat} : mI (mset μ k b) 65 5 = nI b := by unfold mset; simp only [mI_sI, mR_sI, mK_sI, mN_sI, mL_sI, mI_sG, mR_sG, mK_sG, mN_sG, mL_sG, mI_sJ, mR_sJ, mK_sJ, mN_sJ, mL_sJ, mI_sA, mR_sA, mK_sA, mN_sA, mL_sA, z_up, ↓reduceIte, reduceIte, Nat.reduceEqDiff, true_and, and_true]
theorem mI_mset3 {μ : p_M} {k b : Nat} : mI (mset μ k b) 65 3 = nI k := by unfold mset; simp only [mI_sI, mR_sI, mK_sI, mN_sI, mL_sI, mI_sG, mR_sG, mK_sG, mN_sG, mL_sG, mI_sJ, mR_sJ, mK_sJ, mN_sJ, mL_sJ, mI_sA, mR_sA, mK_sA, mN_sA, mL_sA, z_up, ↓reduceIte, reduceIte, Nat.reduceEqDiff, true_and, and_true]
theorem mI_msetO {μ : p_M} {k b a : Nat} (h : a ≠ 65) : mI (mset μ k b) a = mI μ a := by unfold mset; rw [mI_sI, if_neg h, mI_sI, if_neg h]
theorem mI_msetS {μ : p_M} {k b j : Nat} (h3 : j ≠ 3) (h5 : j ≠ 5) : mI (mset μ k b) 65 j = mI μ 65 j := by
  unfold mset
  simp only [mI_sI, mR_sI, mK_sI, mN_sI, mL_sI, mI_sG, mR_sG, mK_sG, mN_sG, mL_sG, mI_sJ, mR_sJ, mK_sJ, mN_sJ, mL_sJ, mI_sA, mR_sA, mK_sA, mN_sA, mL_sA, z_up, ↓reduceIte, reduceIte, Nat.reduceEqDiff, true_and, and_true, h3, h5]
theorem Fq_mset {μ : p_M} (k b : Nat) : Fq [] [3, 5] μ (mset μ k b) := Fq_s65 (Fq_s65 (Fq_refl μ) (by decide)) (by decide)
theorem m_isAt {μ : p_M} {f : Nat → Int32} {e k : Nat} (h : MT μ f e k) (lo hi : Int32) : F_X13_isAt lo hi μ = some (bI (k < e ∧ isA lo hi (f k) = true), μ) := by
  obtain ⟨h1, h2, h3, h4, h5⟩ := h
  by_cases c : k < e
  · have c1 : ¬ nI e ≤ nI k := nI_ge (by omega) (by omega)
    have i1 := ix_nI (show k < 400 by omega) (by decide)
    have k1 := nI_clamp (show k < 2 ^ 31 by omega)
    have l1 : k < 400 := by omega
    by_cases c2 : f k < lo
    · rw [bI_neg (fun h => by unfold isA at h; rw [decide_eq_true_eq] at h; exact i_nle.mpr c2 h.2.1)]
      simp only [bd_some, p_let_eq, p_ok, mI_sI, mR_sI, mK_sI, mN_sI, mL_sI, mI_sG, mR_sG, mK_sG, mN_sG, mL_sG, mI_sJ, mR_sJ, mK_sJ, mN_sJ, mL_sJ, z_up, ↓reduceIte, and_self, true_and, and_true, false_and, and_false, not_true_eq_false, not_false_eq_true, Nat.reduceEqDiff, i_10, i_20, i_30, w_in, w_need1, w_need0, m_in, m_thr0, m_thr1, tM, aM, nI_1, nI_pred, reduceIte, wp_some, eq_self, bI_T, bI_F, F_X13_isAt, F_X13_isAt_c41, F_X13_isAt_c42, h1, h2, h3, c1, i1, k1, l1, c2, true_or]
    · by_cases c3 : hi < f k
      · rw [bI_neg (fun h => by unfold isA at h; rw [decide_eq_true_eq] at h; exact i_nle.mpr c3 h.2.2)]
        simp only [bd_some, p_let_eq, p_ok, mI_sI, mR_sI, mK_sI, mN_sI, mL_sI, mI_sG, mR_sG, mK_sG, mN_sG, mL_sG, mI_sJ, mR_sJ, mK_sJ, mN_sJ, mL_sJ, z_up, ↓reduceIte, and_self, true_and, and_true, false_and, and_false, not_true_eq_false, not_false_eq_true, Nat.reduceEqDiff, i_10, i_20, i_30, w_in, w_need1, w_need0, m_in, m_thr0, m_thr1, tM, aM, nI_1, nI_pred, reduceIte, wp_some, eq_self, bI_T, bI_F, F_X13_isAt, F_X13_isAt_c41, F_X13_isAt_c42, h1, h2, h3, c1, i1, k1, l1, c2, c3, true_or]
      · rw [bI_pos ⟨c, by unfold isA; rw [decide_eq_true_eq]; exact ⟨i_nlt.mp c2, i_nlt.mp c3⟩⟩]
        simp only [bd_some, p_let_eq, p_ok, mI_sI, mR_sI, mK_sI, mN_sI, mL_sI, mI_sG, mR_sG, mK_sG, mN_sG, mL_sG, mI_sJ, mR_sJ, mK_sJ, mN_sJ, mL_sJ, z_up, ↓reduceIte, and_self, true_and, and_true, false_and, and_false, not_true_eq_false, not_false_eq_true, Nat.reduceEqDiff, i_10, i_20, i_30, w_in, w_need1, w_need0, m_in, m_thr0, m_thr1, tM, aM, nI_1, nI_pred, reduceIte, wp_some, eq_self, bI_T, bI_F, F_X13_isAt, F_X13_isAt_c41, F_X13_isAt_c42, h1, h2, h3, c1, i1, k1, l1, c2, c3, or_true]
  · have c1 : nI e ≤ nI k := nI_le (by omega) (by omega)
    rw [bI_neg (fun h => c h.1)]
    simp only [bd_some, p_let_eq, p_ok, mI_sI, mR_sI, mK_sI, mN_sI, mL_sI, mI_sG, mR_sG, mK_sG, mN_sG, mL_sG, mI_sJ, mR_sJ, mK_sJ, mN_sJ, mL_sJ, z_up, ↓reduceIte, and_self, true_and, and_true, false_and, and_false, not_true_eq_false, not_false_eq_true, Nat.reduceEqDiff, i_10, i_20, i_30, w_in, w_need1, w_need0, m_in, m_thr0, m_thr1, tM, aM, nI_1, nI_pred, reduceIte, wp_some, eq_self, bI_T, bI_F, F_X13_isAt, F_X13_isAt_c41, F_X13_isAt_c42, h2, h3, c1, true_or]
theorem mt_step {μ : p_M} {f : Nat → Int32} {e k : Nat} (h : MT μ f e k) (hl : k < e) : MT (sI μ 65 3 (nI (k + 1))) f e (k + 1) := by
  obtain ⟨h1, h2, h3, h4, h5⟩ := h
  unfold MT
  simp only [mI_sI, mR_sI, mK_sI, mN_sI, mL_sI, mI_sG, mR_sG, mK_sG, mN_sG, mL_sG, mI_sJ, mR_sJ, mK_sJ, mN_sJ, mL_sJ, mI_sA, mR_sA, mK_sA, mN_sA, mL_sA, z_up, ↓reduceIte, reduceIte, Nat.reduceEqDiff, true_and, and_true]
  exact ⟨h1, h2, h4, hl⟩
theorem m_blanks {f : Nat → Int32} {e : Nat} : ∀ (r k m : Nat) (μ : p_M), e - k = r → r < m → MT μ f e k → F_X13_blanks_c0 m μ = some (0, mset μ (skp (isA 32 32) f e k) (skp (isA 32 32) f e k)) := by
  intro r
  induction r with
  | zero =>
    intro k m μ hk hm hT
    obtain ⟨m, rfl⟩ : ∃ k, m = k + 1 := ⟨m - 1, by omega⟩
    have c : ¬ (k < e ∧ isA 32 32 (f k) = true) := fun h => by omega
    rw [skp_end (by omega)]
    simp only [bd_some, p_let_eq, p_ok, mI_sI, mR_sI, mK_sI, mN_sI, mL_sI, mI_sG, mR_sG, mK_sG, mN_sG, mL_sG, mI_sJ, mR_sJ, mK_sJ, mN_sJ, mL_sJ, z_up, ↓reduceIte, and_self, true_and, and_true, false_and, and_false, not_true_eq_false, not_false_eq_true, Nat.reduceEqDiff, i_10, i_20, i_30, w_in, w_need1, w_need0, m_in, m_thr0, m_thr1, tM, aM, nI_1, nI_pred, reduceIte, wp_some, eq_self, bI_T, bI_F, F_X13_blanks_c0, m_isAt hT, c, hT.2.2.1]
    show some ((0 : Int32), sI μ 65 5 (nI k)) = _
    unfold mset
    rw [← hT.2.2.1, sI_self]
  | succ r ih =>
    intro k m μ hk hm hT
    obtain ⟨m, rfl⟩ : ∃ k, m = k + 1 := ⟨m - 1, by omega⟩
    rw [skp_eq (by omega)]
    by_cases c : isA 32 32 (f k) = true
    · have c' : (k < e ∧ isA 32 32 (f k) = true) := ⟨by omega, c⟩
      have a1 : nI k + 1 = nI (k + 1) := nI_add k 1
      rw [if_pos c]
      have := ih (k + 1) m (sI μ 65 3 (nI (k + 1))) (by omega) (by omega) (mt_step hT (by omega))
      unfold mset at this
      rw [sI_sI] at this
      simp only [bd_some, p_let_eq, p_ok, mI_sI, mR_sI, mK_sI, mN_sI, mL_sI, mI_sG, mR_sG, mK_sG, mN_sG, mL_sG, mI_sJ, mR_sJ, mK_sJ, mN_sJ, mL_sJ, z_up, ↓reduceIte, and_self, true_and, and_true, false_and, and_false, not_true_eq_false, not_false_eq_true, Nat.reduceEqDiff, i_10, i_20, i_30, w_in, w_need1, w_need0, m_in, m_thr0, m_thr1, tM, aM, nI_1, nI_pred, reduceIte, wp_some, eq_self, bI_T, bI_F, F_X13_blanks_c0, m_isAt hT, c', hT.2.2.1, a1]
      exact this
    · have c' : ¬ (k < e ∧ isA 32 32 (f k) = true) := fun h => c h.2
      rw [if_neg c]
      simp only [bd_some, p_let_eq, p_ok, mI_sI, mR_sI, mK_sI, mN_sI, mL_sI, mI_sG, mR_sG, mK_sG, mN_sG, mL_sG, mI_sJ, mR_sJ, mK_sJ, mN_sJ, mL_sJ, z_up, ↓reduceIte, and_self, true_and, and_true, false_and, and_false, not_true_eq_false, not_false_eq_true, Nat.reduceEqDiff, i_10, i_20, i_30, w_in, w_need1, w_need0, m_in, m_thr0, m_thr1, tM, aM, nI_1, nI_pred, reduceIte, wp_some, eq_self, bI_T, bI_F, F_X13_blanks_c0, m_isAt hT, c', hT.2.2.1]
      unfold mset
      rw [← hT.2.2.1, sI_self]
theorem m_blanks' {f : Nat → Int32} {e k : Nat} {μ : p_M} (hT : MT μ f e k) : F_X13_blanks μ = some (0, mset μ (skp (isA 32 32) f e k) (skp (isA 32 32) f e k)) := m_blanks (e - k) k p_fu μ rfl (by have := hT.2.2.2.1; rw [show p_fu = 99999 + 1 from rfl]; omega) hT
theorem m_word {f : Nat → Int32} {e : Nat} : ∀ (r k m : Nat) (μ : p_M), e - k = r → r < m → MT μ f e k → F_X13_word_c4 m μ = some (0, sI μ 65 3 (nI (skp (isA 97 122) f e k))) := by
  intro r
  induction r with
  | zero =>
    intro k m μ hk hm hT
    obtain ⟨m, rfl⟩ : ∃ k, m = k + 1 := ⟨m - 1, by omega⟩
    have c : ¬ (k < e ∧ isA 97 122 (f k) = true) := fun h => by omega
    rw [skp_end (by omega)]
    simp only [bd_some, p_let_eq, p_ok, mI_sI, mR_sI, mK_sI, mN_sI, mL_sI, mI_sG, mR_sG, mK_sG, mN_sG, mL_sG, mI_sJ, mR_sJ, mK_sJ, mN_sJ, mL_sJ, z_up, ↓reduceIte, and_self, true_and, and_true, false_and, and_false, not_true_eq_false, not_false_eq_true, Nat.reduceEqDiff, i_10, i_20, i_30, w_in, w_need1, w_need0, m_in, m_thr0, m_thr1, tM, aM, nI_1, nI_pred, reduceIte, wp_some, eq_self, bI_T, bI_F, F_X13_word_c4, m_isAt hT, c]
    rw [← hT.2.2.1, sI_self]
  | succ r ih =>
    intro k m μ hk hm hT
    obtain ⟨m, rfl⟩ : ∃ k, m = k + 1 := ⟨m - 1, by omega⟩
    rw [skp_eq (by omega)]
    by_cases c : isA 97 122 (f k) = true
    · have c' : (k < e ∧ isA 97 122 (f k) = true) := ⟨by omega, c⟩
      have a1 : nI k + 1 = nI (k + 1) := nI_add k 1
      rw [if_pos c]
      have := ih (k + 1) m (sI μ 65 3 (nI (k + 1))) (by omega) (by omega) (mt_step hT (by omega))
      rw [sI_sI] at this
      simp only [bd_some, p_let_eq, p_ok, mI_sI, mR_sI, mK_sI, mN_sI, mL_sI, mI_sG, mR_sG, mK_sG, mN_sG, mL_sG, mI_sJ, mR_sJ, mK_sJ, mN_sJ, mL_sJ, z_up, ↓reduceIte, and_self, true_and, and_true, false_and, and_false, not_true_eq_false, not_false_eq_true, Nat.reduceEqDiff, i_10, i_20, i_30, w_in, w_need1, w_need0, m_in, m_thr0, m_thr1, tM, aM, nI_1, nI_pred, reduceIte, wp_some, eq_self, bI_T, bI_F, F_X13_word_c4, m_isAt hT, c', hT.2.2.1, a1]
      exact this
    · have c' : ¬ (k < e ∧ isA 97 122 (f k) = true) := fun h => c h.2
      rw [if_neg c]
      simp only [bd_some, p_let_eq, p_ok, mI_sI, mR_sI, mK_sI, mN_sI, mL_sI, mI_sG, mR_sG, mK_sG, mN_sG, mL_sG, mI_sJ, mR_sJ, mK_sJ, mN_sJ, mL_sJ, z_up, ↓reduceIte, and_self, true_and, and_true, false_and, and_false, not_true_eq_false, not_false_eq_true, Nat.reduceEqDiff, i_10, i_20, i_30, w_in, w_need1, w_need0, m_in, m_thr0, m_thr1, tM, aM, nI_1, nI_pred, reduceIte, wp_some, eq_self, bI_T, bI_F, F_X13_word_c4, m_isAt hT, c']
      rw [← hT.2.2.1, sI_self]
theorem m_word' {f : Nat → Int32} {e k : Nat} {μ : p_M} (hT : MT μ f e k) : F_X13_word μ = some (0, mset μ (skp (isA 97 122) f e (skp (isA 32 32) f e k)) (skp (isA 32 32) f e k)) := by
  have h4 := hT.2.2.2.1
  have h5 := skp_le (p := isA 32 32) (f := f) hT.2.2.2.2
  have := m_word (f := f) (e := e) (e - skp (isA 32 32) f e k) (skp (isA 32 32) f e k) p_fu (mset μ (skp (isA 32 32) f e k) (skp (isA 32 32) f e k)) rfl (by rw [show p_fu = 99999 + 1 from rfl]; omega) (MT_mset hT h5)
  rw [mset_3] at this
  unfold F_X13_word
  rw [m_blanks' hT]
  exact this
