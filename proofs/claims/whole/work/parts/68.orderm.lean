/-! order: the Model -/
def oM (o : Option Nat) : Int32 := match o with
  | some v => nI v
  | none => 1000000
/-- litres carried between batches -/
def cF (g b : Nat → Int32) (j k : Nat) : Option Nat := if g (6 * (b j).toNatClampNeg + (b k).toNatClampNeg) = -1 then none else some (g (6 * (b j).toNatClampNeg + (b k).toNatClampNeg)).toNatClampNeg
def okK (n : Nat) (g b : Nat → Int32) : Prop := (∀ j, j < 36 → g j = -1 ∨ ∃ x : Nat, x ≤ 100 ∧ g j = nI x) ∧ ∀ j, j < n → ∃ x : Nat, x ≤ 5 ∧ b j = nI x
/-- the litres, in bounds -/
def cB (n : Nat) (g b : Nat → Int32) (j k : Nat) : Option Nat := if j < n ∧ k < n then cF g b j k else none
theorem cB_b {n : Nat} {g b : Nat → Int32} (h : okK n g b) : bC (cB n g b) := by
  intro j k x hx
  unfold cB at hx
  split at hx
  · rename_i c
    obtain ⟨x1, h1, e1⟩ := h.2 j c.1
    obtain ⟨x2, h2, e2⟩ := h.2 k c.2
    unfold cF at hx
    rw [e1, e2, nI_clamp (show x1 < 2 ^ 31 by omega), nI_clamp (show x2 < 2 ^ 31 by omega)] at hx
    split at hx
    · cases hx
    · rcases h.1 (6 * x1 + x2) (by omega) with h3 | ⟨y, h3, h4⟩
      · rename_i c2; exact absurd h3 c2
      · cases hx
        rw [h4, nI_clamp (by omega)]
        exact h3
  · cases hx
/-- one carry, read -/
theorem cB_get {n : Nat} {g b : Nat → Int32} (h : okK n g b) {j k : Nat} (hj : j < n) (hk : k < n) : ∃ x1 x2 : Nat, x1 ≤ 5 ∧ x2 ≤ 5 ∧ b j = nI x1 ∧ b k = nI x2 ∧ ((g (6 * x1 + x2) = -1 ∧ cB n g b j k = none) ∨ ∃ y : Nat, y ≤ 100 ∧ g (6 * x1 + x2) = nI y ∧ cB n g b j k = some y) := by
  obtain ⟨x1, h1, e1⟩ := h.2 j hj
  obtain ⟨x2, h2, e2⟩ := h.2 k hk
  refine ⟨x1, x2, h1, h2, e1, e2, ?_⟩
  unfold cB cF
  rw [if_pos ⟨hj, hk⟩, e1, e2, nI_clamp (show x1 < 2 ^ 31 by omega), nI_clamp (show x2 < 2 ^ 31 by omega)]
  rcases h.1 (6 * x1 + x2) (by omega) with h3 | ⟨y, h3, h4⟩
  · exact Or.inl ⟨h3, by rw [if_pos h3]⟩
  · refine Or.inr ⟨y, h3, h4, ?_⟩
    rw [h4, if_neg (nI_n1 (by omega)), nI_clamp (by omega)]
theorem oM_b {o : Option Nat} {B : Nat} (h : ∀ x, o = some x → x ≤ B) (hB : B < 1000000) : ∃ y : Nat, y ≤ 1000000 ∧ oM o = nI y := by
  cases o with
  | none => exact ⟨1000000, by decide, rfl⟩
  | some x => exact ⟨x, by have := h x rfl; omega, rfl⟩
/-- min on the Model's side -/
theorem oM_mn {a : Option Nat} {d : Option Nat} {y : Nat} (ha : ∀ x, a = some x → x < 1000000) (hd : ∀ x, d = some x → x < 900000) (hy : y ≤ 100) : (if oM d + nI y < oM a then oM d + nI y else oM a) = oM (mn a (ad d (some y))) := by
  cases d with
  | none =>
    have e : oM none + nI y = nI (1000000 + y) := nI_add 1000000 y
    rw [e]
    show _ = oM (mn a none)
    rw [mn_none]
    cases a with
    | none => rw [if_neg (show ¬ nI (1000000 + y) < oM none from (show ¬ nI (1000000 + y) < nI 1000000 from nI_nlt (by omega) (by omega)))]
    | some x =>
      have := ha x rfl
      rw [if_neg (show ¬ nI (1000000 + y) < oM (some x) from (show ¬ nI (1000000 + y) < nI x from nI_nlt (by omega) (by omega)))]
  | some z =>
    have hz := hd z rfl
    have e : oM (some z) + nI y = nI (z + y) := nI_add z y
    rw [e]
    cases a with
    | none => rw [if_pos (show nI (z + y) < oM none from (show nI (z + y) < nI 1000000 from nI_lt (by omega) (by omega)))]; rfl
    | some x =>
      have hx := ha x rfl
      show _ = nI (if z + y < x then z + y else x)
      by_cases c : z + y < x
      · rw [if_pos c, if_pos (show nI (z + y) < oM (some x) from (show nI (z + y) < nI x from nI_lt c (by omega)))]
      · rw [if_neg c, if_neg (show ¬ nI (z + y) < oM (some x) from (show ¬ nI (z + y) < nI x from nI_nlt (by omega) (by omega)))]; rfl
theorem pl_s {E : Nat → Option Nat} {c : Nat → Nat → Option Nat} {t k m : Nat} : pl E c t k (m + 1) = if t.testBit m = true then mn (pl E c t k m) (ad (E m) (c m k)) else pl E c t k m := rfl
/-- the table up to a set -/
def TabM (n : Nat) (c : Nat → Nat → Option Nat) (f : Nat → Int32) (S : Nat) : Prop := ∀ s k, 1 ≤ s → s < S → k < n → f (9 * s + k) = oM (DD n c s k)
theorem m_oj {n S k : Nat} {c : Nat → Nat → Option Nat} {g b f : Nat → Int32} (hn : n ≤ 9) (hS : S < 512) (hk : k < n) (hok : okK n g b) (K25 : Int32 → Int32 → p_M → Option (Int32 × p_M)) (K32 : Int32 → Int32 → Int32 → p_M → Option (Int32 × p_M)) (v1 : Int32) {t : Nat} (ht : t < 512) (hbad : t = rst S k) (μ : p_M) (e25 : mI μ 65 25 = nI n) (e23 : mI μ 77 = g) (e24 : mI μ 78 = b) (e26 : mI μ 79 = f) (hc : c = cB n g b) (good : S.testBit k = true → TabM n c f S) : ∀ (r j m : Nat) (v : Int32), j + r = n → r < m → (S.testBit k = true → v = if t = 0 then 0 else oM (pl (DD n c t) c t k j)) → F_X13_order_c66 K25 K32 m v1 (nI S) (nI k) (nI t) v (nI j) μ = K32 v1 (nI S) (nI (k + 1)) (sI μ 79 (9 * S + k) (oM (DD n c S k))) := by
  have m9 : 9 * nI S = nI (9 * S) := pk_mul 9 S
  have a9 : nI (9 * S) + nI k = nI (9 * S + k) := nI_add _ _
  have i9 := ix_nI (show 9 * S + k < 4608 by omega) (by decide)
  have k9 := nI_clamp (show 9 * S + k < 2 ^ 31 by omega)
  have l9 : 9 * S + k < 4608 := by omega
  have ak : nI k + 1 = nI (k + 1) := nI_add k 1
  have m9t : 9 * nI t = nI (9 * t) := pk_mul 9 t
  have bS : (((nI S >>> (nI k &&& 31)) &&& 1) = 1) = (S.testBit k = true) := nI_bit (by omega)
  intro r
  induction r with
  | zero =>
    intro j m v hj hm hv
    obtain ⟨m, rfl⟩ : ∃ k, m = k + 1 := ⟨m - 1, by omega⟩
    have c1 : nI n ≤ nI j := nI_le (by omega) (by omega)
    have hj : j = n := by omega
    subst hj
    by_cases cb : S.testBit k = true
    · have hd : DD j c S k = if t = 0 then some 0 else pl (DD j c t) c t k j := by
        rw [DD_eq hS, if_pos cb, ← hbad]
      have hv' : v = oM (DD j c S k) := by
        rw [hd, hv cb]
        split <;> rfl
      have bS : (((nI S >>> (nI k &&& 31)) &&& 1) = 1) = True := by rw [bS]; exact eq_true cb
      simp only [F_X13_order_c66, F_X13_order_c171, p_ok, tM, aM, e25, c1, bS, m9, a9, i9, k9, l9, ak, hv', and_self, true_and, not_true_eq_false, not_false_eq_true, ↓reduceIte]
    · have hd : DD j c S k = none := by rw [DD_eq hS, if_neg cb]
      have bS : (((nI S >>> (nI k &&& 31)) &&& 1) = 1) = False := by rw [bS]; exact eq_false cb
      rw [hd]
      simp only [F_X13_order_c66, F_X13_order_c171, p_ok, tM, aM, e25, c1, bS, m9, a9, i9, k9, l9, ak, and_self, true_and, not_true_eq_false, not_false_eq_true, ↓reduceIte]
      rfl
  | succ r ih =>
    intro j m v hj hm hv
    obtain ⟨m, rfl⟩ : ∃ k, m = k + 1 := ⟨m - 1, by omega⟩
    have c1 : ¬ nI n ≤ nI j := nI_ge (by omega) (by omega)
    have aj : nI j + 1 = nI (j + 1) := nI_add j 1
    have ij := ix_nI (show j < 9 by omega) (by decide)
    have kj := nI_clamp (show j < 2 ^ 31 by omega)
    have lj : j < 9 := by omega
    have ik := ix_nI (show k < 9 by omega) (by decide)
    have kk := nI_clamp (show k < 2 ^ 31 by omega)
    have lk : k < 9 := by omega
    obtain ⟨x1, x2, h1, h2, b1, b2, hg⟩ := cB_get hok (show j < n by omega) hk
    rw [← hc] at hg
    have m6 : 6 * nI x1 = nI (6 * x1) := pk_mul 6 x1
    have a6 : nI (6 * x1) + nI x2 = nI (6 * x1 + x2) := nI_add _ _
    have i6 := ix_nI (show 6 * x1 + x2 < 36 by omega) (by decide)
    have k6 := nI_clamp (show 6 * x1 + x2 < 2 ^ 31 by omega)
    have l6 : 6 * x1 + x2 < 36 := by omega
    have at_ : nI (9 * t) + nI j = nI (9 * t + j) := nI_add _ _
    have it := ix_nI (show 9 * t + j < 4608 by omega) (by decide)
    have kt := nI_clamp (show 9 * t + j < 2 ^ 31 by omega)
    have lt : 9 * t + j < 4608 := by omega
    have bt_ : (((nI t >>> (nI j &&& 31)) &&& 1) = 1) = (t.testBit j = true) := nI_bit (by omega)
    by_cases ct : t.testBit j = true
    · have bt_ : (((nI t >>> (nI j &&& 31)) &&& 1) = 1) = True := by rw [bt_]; exact eq_true ct
      have t0 : t ≠ 0 := fun h => by rw [h, Nat.zero_testBit] at ct; cases ct
      rcases hg with ⟨g1, g2⟩ | ⟨y, hy, g1, g2⟩
      · have z : (-1 : Int32) < 0 := by decide
        have r1 := ih (j + 1) m v (by omega) (by omega) (fun hb => by
          rw [hv hb, if_neg t0, if_neg t0]
          rw [pl_s, if_pos ct, g2, ad_none, mn_none])
        simp only [F_X13_order_c66, F_X13_order_c138, p_ok, tM, aM, e25, c1, ij, kj, lj, ik, kk, lk, e23, e24, b1, b2, m6, a6, i6, k6, l6, bt_, g1, z, aj, and_self, true_and, not_true_eq_false, not_false_eq_true, ↓reduceIte]
        exact r1
      · have z : ¬ nI y < 0 := nI_pos (by omega)
        have r1 := ih (j + 1) m (if f (9 * t + j) + nI y < v then f (9 * t + j) + nI y else v) (by omega) (by omega) (fun hb => by
          have hTab := good hb
          have htS : t < S := by rw [hbad]; exact rst_lt hS hb
          rw [if_neg t0, hTab t j (by omega) htS (by omega), hv hb, if_neg t0]
          rw [pl_s, if_pos ct, g2]
          refine oM_mn (fun x hx => ?_) (fun x hx => ?_) hy
          · have hcb : bC c := by rw [hc]; exact cB_b hok
            have := pl_b hcb (fun q w hw => DD_b hcb t q w ht hw) j x hx
            omega
          · have hcb : bC c := by rw [hc]; exact cB_b hok
            have := DD_b hcb t j x ht hx
            omega)
        simp only [F_X13_order_c66, F_X13_order_c138, p_ok, tM, aM, e25, c1, ij, kj, lj, ik, kk, lk, e23, e24, e26, b1, b2, m6, a6, i6, k6, l6, bt_, g1, z, aj, m9t, at_, it, kt, lt, and_self, true_and, not_true_eq_false, not_false_eq_true, ↓reduceIte]
        exact r1
    · have bt_ : (((nI t >>> (nI j &&& 31)) &&& 1) = 1) = False := by rw [bt_]; exact eq_false ct
      have r1 := ih (j + 1) m v (by omega) (by omega) (fun hb => by
          rw [hv hb]
          by_cases t0 : t = 0
          · rw [if_pos t0, if_pos t0]
          · rw [if_neg t0, if_neg t0]
            rw [pl_s, if_neg ct])
      simp only [F_X13_order_c66, F_X13_order_c138, p_ok, tM, aM, e25, c1, ij, kj, lj, ik, kk, lk, e23, e24, b1, b2, m6, a6, i6, k6, l6, bt_, aj, and_self, true_and, not_true_eq_false, not_false_eq_true, ↓reduceIte]
      exact r1
