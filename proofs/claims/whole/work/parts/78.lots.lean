/-! LOTS and MACHINES: what both sides hold of them -/
def cnt (P : Nat → Bool) : Nat → Nat
  | 0 => 0
  | n + 1 => cnt P n + (if P n = true then 1 else 0)
theorem cnt_le (P : Nat → Bool) (n : Nat) : cnt P n ≤ n := by
  induction n with
  | zero => exact Nat.le_refl _
  | succ n ih => unfold cnt; split <;> omega
theorem cnt_ext {P Q : Nat → Bool} : ∀ {n : Nat}, (∀ j, j < n → P j = Q j) → cnt P n = cnt Q n := by
  intro n
  induction n with
  | zero => intro _; rfl
  | succ n ih => intro h; unfold cnt; rw [ih (fun j hj => h j (by omega)), h n (by omega)]
theorem cnt_up {P Q : Nat → Bool} {i : Nat} (hp : P i = false) (hq : Q i = true) (h : ∀ j, j ≠ i → P j = Q j) : ∀ {n : Nat}, i < n → cnt Q n = cnt P n + 1 := by
  intro n
  induction n with
  | zero => intro h; omega
  | succ n ih =>
    intro hi
    unfold cnt
    by_cases c : i = n
    · subst c
      rw [hp, hq, cnt_ext (fun j hj => (h j (by omega)).symm), if_pos rfl, if_neg Bool.false_ne_true]
    · rw [ih (by omega), h n (fun e => c e.symm)]
      omega
theorem cnt_lt {P : Nat → Bool} {i : Nat} (hp : P i = false) : ∀ {n : Nat}, i < n → cnt P n < n := by
  intro n
  induction n with
  | zero => intro h; omega
  | succ n ih =>
    intro hi
    unfold cnt
    by_cases c : i = n
    · subst c
      rw [hp, if_neg Bool.false_ne_true]
      have := cnt_le P i
      omega
    · have := ih (by omega)
      split <;> omega
/-- the last measure of a piece among the first m -/
def lastM (a b : Nat → Int32) (j p : Nat) : Nat → Int32
  | 0 => -1
  | m + 1 => if a m = nI j ∧ b m = nI p then nI m else lastM a b j p m
/-- the cells of a Lot -/
def LotS (μ : p_M) (l P nb : Nat) : Prop := 113 ≤ l ∧ (mK μ l = 5 ∧ l < mN μ) ∧ mR μ l 7 = some (l + 2) ∧ mR μ l 8 = some (l + 1) ∧ mR μ l 15 = some (l + 5) ∧ mR μ l 16 = some (l + 6) ∧ (mK μ (l + 1) = 4 ∧ l + 1 < mN μ) ∧ isRec μ (l + 2) (l + 3) (l + 4) nb ∧ (l + 5 < p_E ∧ mK μ (l + 5) = 20 ∧ l + 5 < mN μ) ∧ mL μ (l + 5) = P ∧ (l + 6 < p_E ∧ mK μ (l + 6) = 20 ∧ l + 6 < mN μ) ∧ mL μ (l + 6) = P
/-- its numbers -/
def LotV (μ : p_M) (j l : Nat) : Prop := mI μ l 0 = mI μ 89 j ∧ mI μ l 1 = mI μ 90 j ∧ mI μ l 2 = mI μ 91 j ∧ mI μ l 3 = mI μ 95 j ∧ mI μ l 4 = mI μ 92 j ∧ mI μ l 5 = mI μ 93 j ∧ mI μ l 6 = mI μ 94 j ∧ mI μ l 9 = mI μ 96 j ∧ mI μ l 10 = mI μ 97 j ∧ mI μ l 11 = mI μ 98 j ∧ mI μ l 12 = mI μ 99 j ∧ mI μ l 13 = mI μ 100 j ∧ mI μ l 14 = mI μ 101 j
def bnN (f : Nat → Int32) (j lo hi : Nat) : Prop := ∃ x : Nat, lo ≤ x ∧ x ≤ hi ∧ f j = nI x
/-- and their bounds -/
def LotG (μ : p_M) (C K j P nb : Nat) : Prop := (∃ c : Nat, c < C ∧ mI μ 89 j = nI c) ∧ mI μ 90 j = nI P ∧ 1 ≤ P ∧ P ≤ 60 ∧ bnN (mI μ 91) j 0 5 ∧ bnN (mI μ 92) j 0 255 ∧ bnN (mI μ 93) j 0 255 ∧ bnN (mI μ 94) j 0 255 ∧ bnN (mI μ 95) j 0 400 ∧ bnN (mI μ 96) j 0 3 ∧ (∃ d : Nat, d ≤ nb ∧ mI μ 98 j = nI d ∧ (mI μ 96 j = 2 → d < nb)) ∧ bnN (mI μ 101) j 0 5 ∧ (mI μ 96 j = 1 ∨ mI μ 96 j = 2 → ∃ i : Nat, i < K ∧ mI μ 97 j = nI i)
def LotL (μ : p_M) (j l : Nat) : Prop := ∃ (L : LK) (h c : Nat), okL L ∧ h ≤ 9 ∧ isL (mI μ (l + 1)) L h ∧ isR (mI μ 74) j L ∧ c < 6 ∧ mI μ 89 j = nI c ∧ mI μ 73 c = nI h
def LotC (μ : p_M) (j l nb : Nat) : Prop := nb ≤ 20 ∧ mI μ 68 j = nI nb ∧ RecC (mI μ (l + 2) 2) (mI μ (l + 3)) (mI μ (l + 4)) (mI μ 69) (mI μ 70) (20 * j) nb
def LotP (μ : p_M) (j l P : Nat) : Prop := ∀ p, p < P → mI μ (l + 5) p = mI μ 103 (60 * j + p) ∧ ∃ x : Nat, x ≤ 2 ∧ mI μ 103 (60 * j + p) = nI x
def LotM (μ : p_M) (j l P M : Nat) : Prop := ∀ p, p < P → mI μ (l + 6) p = lastM (mI μ 104) (mI μ 105) j p M
def LotR (μ : p_M) (C K M j l : Nat) : Prop := ∃ P nb : Nat, LotS μ l P nb ∧ LotV μ j l ∧ LotG μ C K j P nb ∧ LotL μ j l ∧ LotC μ j l nb ∧ LotP μ j l P ∧ LotM μ j l P M
/-- the list of lots -/
def LstR (μ : p_M) (N E : Nat) (lr : Nat → Nat) : Prop := mI μ 37 2 = nI N ∧ mI μ 65 62 = nI N ∧ N ≤ 40 ∧ (N = 0 ∧ mR μ 37 1 = some (p_E + 3) ∨ 1 ≤ N ∧ mR μ 37 1 = some E ∧ 113 ≤ E ∧ E < mN μ ∧ mK μ E = 25 ∧ N ≤ mL μ E ∧ (mL μ E = 10 ∨ mL μ E = 15 ∨ mL μ E = 22 ∨ mL μ E = 33 ∨ mL μ E = 49) ∧ ∀ j, j < N → mR μ E j = some (lr j)) ∧ (∀ i j, i < j → j < N → lr i + 7 ≤ lr j) ∧ ∀ j, j < N → E < lr j ∨ lr j + 7 ≤ E
/-- a lot waits for a machine -/
def wt (μ : p_M) (i : Nat) (j : Nat) : Bool := decide (mI μ 96 j = 1 ∧ mI μ 97 j = nI i)
/-- a machine -/
def MacR (μ : p_M) (N i : Nat) : Prop := (∃ x : Nat, 1 ≤ x ∧ x ≤ 60 ∧ mI μ (57 + 2 * i) 0 = nI x ∧ mI μ 85 i = nI x) ∧ mI μ (57 + 2 * i) 3 = mI μ 86 i ∧ mI μ (57 + 2 * i) 4 = mI μ 87 i ∧ mI μ (57 + 2 * i) 5 = mI μ 88 i ∧ (mI μ 87 i = -1 ∨ ∃ k : Nat, k ≤ 5 ∧ mI μ 87 i = nI k) ∧ (mI μ 86 i = -1 ∨ ∃ j : Nat, j < N ∧ mI μ 86 i = nI j ∧ mI μ 96 j = 2 ∧ mI μ 97 j = nI i) ∧ mI μ (57 + 2 * i) 2 = nI (cnt (wt μ i) N) ∧ (∀ m, m < cnt (wt μ i) N → ∃ j : Nat, j < N ∧ mI μ (58 + 2 * i) m = nI j ∧ wt μ i j = true) ∧ (∀ m m' j j', m < m' → m' < cnt (wt μ i) N → j < N → j' < N → mI μ (58 + 2 * i) m = nI j → mI μ (58 + 2 * i) m' = nI j' → ∃ t t' : Nat, t < t' ∧ t' < 64 ∧ mI μ 102 j = nI t ∧ mI μ 102 j' = nI t') ∧ ∀ j, j < N → wt μ i j = true → ∃ m, m < cnt (wt μ i) N ∧ mI μ (58 + 2 * i) m = nI j
def MacZ (μ : p_M) (i : Nat) : Prop := mI μ (57 + 2 * i) 2 = 0 ∧ mI μ (57 + 2 * i) 3 = -1 ∧ mI μ (57 + 2 * i) 4 = -1 ∧ mI μ (57 + 2 * i) 5 = 0 ∧ mI μ 88 i = 0
/-- a lot was ever loaded -/
def ld (μ : p_M) (j : Nat) : Bool := decide (¬ mI μ 96 j = 0)
/-- rows not used yet -/
def ZroR (μ : p_M) (N : Nat) : Prop := (∀ j, N ≤ j → j < 40 → mI μ 96 j = 0 ∧ mI μ 98 j = 0 ∧ mI μ 101 j = 0) ∧ ∀ k, 60 * N ≤ k → k < 2400 → mI μ 103 k = 0
/-- the measures -/
def MeaR (μ : p_M) (N M : Nat) : Prop := M ≤ 250 ∧ mI μ 38 3 = nI M ∧ mI μ 65 69 = nI M ∧ mI μ 38 4 = mI μ 65 70 ∧ ∀ m, m < M → mI μ 39 m = mI μ 106 m ∧ mI μ 40 m = mI μ 107 m ∧ bnN (mI μ 106) m 0 255 ∧ bnN (mI μ 107) m 0 400 ∧ ∃ j p : Nat, j < N ∧ p < 60 ∧ mI μ 104 m = nI j ∧ mI μ 105 m = nI p ∧ mI μ 41 m = lastM (mI μ 104) (mI μ 105) j p m
/-- the loadings -/
def LdR (μ : p_M) (N : Nat) : Prop := mI μ 65 63 = nI (cnt (ld μ) N) ∧ ∀ j, j < N → ld μ j = true → ∃ t : Nat, t < cnt (ld μ) N ∧ mI μ 102 j = nI t
def RLots (μ : p_M) : Prop := ∃ (N K M C E : Nat) (lr : Nat → Nat), LstR μ N E lr ∧ (mI μ 65 14 = nI C ∧ C ≤ 6) ∧ (mI μ 0 13 = nI K ∧ mI μ 65 47 = nI K ∧ K ≤ 4) ∧ (∀ j, j < N → LotR μ C K M j (lr j)) ∧ (∀ i, i < K → MacR μ N i) ∧ (∀ i, K ≤ i → i < 4 → MacZ μ i) ∧ ZroR μ N ∧ MeaR μ N M ∧ LdR μ N
/-- days, packs delivered, late pieces -/
def RMisc (μ : p_M) : Prop := (∃ d : Nat, d ≤ 400 ∧ mI μ 0 15 = nI d ∧ mI μ 65 42 = nI d) ∧ mI μ 0 17 = mI μ 65 74 ∧ mI μ 0 18 = mI μ 65 75
theorem m_noLot (v : Int32) (μ : p_M) : F_X13_noLot v μ = some (bI (¬ (0 ≤ v ∧ v ≤ mI μ 65 62 - 1)), μ) := by
  unfold F_X13_noLot F_X13_noLot_c19 tM
  rw [m_in]
  by_cases h : 0 ≤ v ∧ v ≤ mI μ 65 62 - 1
  · rw [bI_pos h, bI_neg (fun e => e h)]; rfl
  · rw [bI_neg h, bI_pos h]; rfl
theorem m_noMachine (v : Int32) (μ : p_M) : F_X13_noMachine v μ = some (bI (¬ (0 ≤ v ∧ v ≤ mI μ 65 47 - 1)), μ) := by
  unfold F_X13_noMachine F_X13_noMachine_c19 tM
  rw [m_in]
  by_cases h : 0 ≤ v ∧ v ≤ mI μ 65 47 - 1
  · rw [bI_pos h, bI_neg (fun e => e h)]; rfl
  · rw [bI_neg h, bI_pos h]; rfl
/-- the lot of a number -/
theorem c_lotAt {μ : p_M} (hS : Sh μ) {N E : Nat} {lr : Nat → Nat} (hL : LstR μ N E lr) {j : Nat} (hj : j < N) (hk : mK μ (lr j) = 5 ∧ lr j < mN μ) : F_X12_lotAt 0 (nI j) μ = some (0, lr j, μ) := by
  obtain ⟨l1, l2, l3, l4, -, -⟩ := hL
  rcases l4 with ⟨h0, -⟩ | ⟨h1, h2, h3, h4, h5, h6, -, h8⟩
  · omega
  · have c1 : 0 ≤ nI j ∧ nI j < nI N := ⟨nI_pos' (by omega), nI_lt hj (by omega)⟩
    have c2 : ¬ nI j < 0 := nI_pos (by omega)
    have kj := nI_clamp (show j < 2 ^ 31 by omega)
    have lj : j < mL μ E := by omega
    have o37 : 37 < mN μ ∧ mK μ 37 = 0 := ⟨(s_o37 hS).2, (s_o37 hS).1⟩
    simp only [F_X12_lotAt, bd_some, p_ok, s_o0 hS, s_r0_0 hS, s_r0_1 hS, s_r0_10 hS, s_r0_11 hS, s_r0_12 hS, s_r0_14 hS, s_r0_16 hS, s_r0_19 hS, s_r0_7 hS, s_r0_8 hS, s_r0_9 hS, o37, w_ix, l1, c1, c2, h2, h4, h5, kj, lj, h8 j hj, hk, and_self, true_and, not_false_eq_true, ↓reduceIte]
theorem c_lotNo {μ : p_M} (hS : Sh μ) {N E : Nat} {lr : Nat → Nat} (hL : LstR μ N E lr) {v : Int32} (hv : ¬ (0 ≤ v ∧ v < nI N)) : F_X12_lotAt 0 v μ = some (3, 0, sG μ 1 6) := by
  obtain ⟨l1, -⟩ := hL
  have o37 : 37 < mN μ ∧ mK μ 37 = 0 := ⟨(s_o37 hS).2, (s_o37 hS).1⟩
  simp only [F_X12_lotAt, bd_some, p_ok, s_o0 hS, s_r0_0 hS, s_r0_1 hS, s_r0_10 hS, s_r0_11 hS, s_r0_12 hS, s_r0_14 hS, s_r0_16 hS, s_r0_19 hS, s_r0_7 hS, s_r0_8 hS, s_r0_9 hS, o37, w_ix, l1, hv, and_self, true_and, ↓reduceIte, Nat.reduceEqDiff]
