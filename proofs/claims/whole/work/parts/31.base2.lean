/-! how both sides are held against each other -/
def wp {α : Type} (x : Option (α × p_M)) (P : α → p_M → Prop) : Prop := match x with
  | some r => P r.1 r.2
  | none => False
theorem wp_some {α : Type} (r : α × p_M) (P : α → p_M → Prop) : wp (some r) P = P r.1 r.2 := rfl
/-- cells and slots made -/
def Cn (μ μ' : p_M) : Prop := mC μ' ≤ mC μ + 10 ∧ mS μ' ≤ mS μ + 300
/-- what changed: rows of cells, and the Model's own numbers -/
def Fr (cs ss : List Nat) (μ μ' : p_M) : Prop := mR μ' = mR μ ∧ mK μ' = mK μ ∧ mL μ' = mL μ ∧ mN μ' = mN μ ∧ (∀ a, a ≠ 65 → a ∉ cs → mI μ' a = mI μ a) ∧ (∀ k, k ∉ ss → mI μ' 65 k = mI μ 65 k)
/-- the answers agree -/
def Post (k b : Int32) (μ μ' : p_M) : Prop := mI μ' 65 0 = k ∧ (k = 0 → mJ μ' 112 0 = b.toInt64) ∧ Cn μ μ'
theorem Fr_refl {cs ss : List Nat} (μ : p_M) : Fr cs ss μ μ := ⟨rfl, rfl, rfl, rfl, fun _ _ _ => rfl, fun _ _ => rfl⟩
theorem Fr_sI {cs ss : List Nat} {μ μ1 : p_M} {a k : Nat} {v : Int32} (h : Fr cs ss μ μ1) (ha : a ∈ cs ∧ a ≠ 65) : Fr cs ss μ (sI μ1 a k v) := ⟨h.1, h.2.1, h.2.2.1, h.2.2.2.1, fun b h1 h2 => by
  rw [mI_sI, if_neg (show ¬ b = a from fun e => h2 (e ▸ ha.1))]
  exact h.2.2.2.2.1 b h1 h2, fun j hj => by
  rw [mI_sI, if_neg (fun e => ha.2 e.symm)]
  exact h.2.2.2.2.2 j hj⟩
theorem Fr_s65 {cs ss : List Nat} {μ μ1 : p_M} {k : Nat} {v : Int32} (h : Fr cs ss μ μ1) (hk : k ∈ ss) : Fr cs ss μ (sI μ1 65 k v) := ⟨h.1, h.2.1, h.2.2.1, h.2.2.2.1, fun b h1 h2 => by
  rw [mI_sI, if_neg h1]
  exact h.2.2.2.2.1 b h1 h2, fun j hj => by
  rw [mI_sI, if_pos rfl, z_up, if_neg (show ¬ j = k from fun e => hj (e ▸ hk))]
  exact h.2.2.2.2.2 j hj⟩
theorem Fr_sJ {cs ss : List Nat} {μ μ1 : p_M} {a k : Nat} {v : Int64} (h : Fr cs ss μ μ1) : Fr cs ss μ (sJ μ1 a k v) := h
theorem Fr_sG {cs ss : List Nat} {μ μ1 : p_M} {a k : Nat} (h : Fr cs ss μ μ1) : Fr cs ss μ (sG μ1 a k) := h
theorem Fr_sA {cs ss : List Nat} {μ μ1 : p_M} {a : Nat} {f : Nat → Int32} (h : Fr cs ss μ μ1) (ha : a ∈ cs ∧ a ≠ 65) : Fr cs ss μ (sA μ1 a f) := ⟨h.1, h.2.1, h.2.2.1, h.2.2.2.1, fun b h1 h2 => by
  rw [mI_sA, if_neg (show ¬ b = a from fun e => h2 (e ▸ ha.1))]
  exact h.2.2.2.2.1 b h1 h2, fun j hj => by
  rw [mI_sA, if_neg (fun e => ha.2 e.symm)]
  exact h.2.2.2.2.2 j hj⟩
theorem Fr_trans {cs ss : List Nat} {μ μ1 μ2 : p_M} (h : Fr cs ss μ μ1) (g : Fr cs ss μ1 μ2) : Fr cs ss μ μ2 := ⟨g.1.trans h.1, g.2.1.trans h.2.1, g.2.2.1.trans h.2.2.1, g.2.2.2.1.trans h.2.2.2.1, fun a h1 h2 => (g.2.2.2.2.1 a h1 h2).trans (h.2.2.2.2.1 a h1 h2), fun k hk => (g.2.2.2.2.2 k hk).trans (h.2.2.2.2.2 k hk)⟩
theorem Sh_fr {cs ss : List Nat} {μ μ' : p_M} (f : Fr cs ss μ μ') (h : Sh μ) : Sh μ' := by
  obtain ⟨f1, f2, f3, f4, -, -⟩ := f
  unfold Sh ShM at *
  rw [f1, f2, f3, f4]
  exact h
theorem ix_nI {n N : Nat} (h : n < N) (hN : N < 2 ^ 31) : ¬ nI n < 0 ∧ (nI n).toNatClampNeg < N := ⟨nI_pos (by omega), by rw [nI_clamp (by omega)]; exact h⟩
theorem w_need0 (μ : p_M) : F_X12_need 0 μ = some (1, 0, sG μ 1 6) := rfl
theorem w_need1 (μ : p_M) : F_X12_need 1 μ = some (0, 0, μ) := rfl
theorem bI_T {h : Decidable True} : @bI True h = 1 := if_pos True.intro
theorem bI_F {h : Decidable False} : @bI False h = 0 := if_neg id
theorem i_10 : ((1 : Int32) = 0) = False := eq_false (by decide)
theorem i_20 : ((2 : Int32) = 0) = False := eq_false (by decide)
theorem i_30 : ((3 : Int32) = 0) = False := eq_false (by decide)
theorem i_00 : ((0 : Int32) = 0) = True := eq_true rfl
theorem nI_nlt' {n N : Nat} (h : ¬ n < N) (hn : n < 2 ^ 31) : ¬ nI n < nI N := nI_nlt (Nat.not_lt.mp h) hn
theorem Fr_row {cs ss : List Nat} {μ μ' : p_M} (f : Fr cs ss μ μ') (a : Nat) (h : a ≠ 65 ∧ cs.contains a = false) : mI μ' a = mI μ a := f.2.2.2.2.1 a h.1 (fun e => by have := List.contains_iff_mem.mpr e; rw [h.2] at this; cases this)
theorem Fr_sc {cs ss : List Nat} {μ μ' : p_M} (f : Fr cs ss μ μ') (k : Nat) (h : ss.contains k = false) : mI μ' 65 k = mI μ 65 k := f.2.2.2.2.2 k (fun e => by have := List.contains_iff_mem.mpr e; rw [h] at this; cases this)
/-- rows and numbers untouched -/
def dj (cs ss rows nums : List Nat) : Bool := rows.all (fun a => a != 65 && !cs.contains a) && nums.all (fun k => !ss.contains k)
theorem dj1 {cs ss rows nums : List Nat} (h : dj cs ss rows nums = true) {a : Nat} (ha : a ∈ rows) : a ≠ 65 ∧ cs.contains a = false := by
  unfold dj at h
  rw [Bool.and_eq_true] at h
  have := List.all_eq_true.mp h.1 a ha
  rw [Bool.and_eq_true] at this
  exact ⟨by have := this.1; simpa using this, by have := this.2; simpa using this⟩
theorem dj2 {cs ss rows nums : List Nat} (h : dj cs ss rows nums = true) {k : Nat} (hk : k ∈ nums) : ss.contains k = false := by
  unfold dj at h
  rw [Bool.and_eq_true] at h
  have := List.all_eq_true.mp h.2 k hk
  simpa using this
theorem Fr_mono {cs ss cs' ss' : List Nat} {μ μ' : p_M} (f : Fr cs ss μ μ') (h1 : ∀ a, a ∈ cs → a ∈ cs') (h2 : ∀ a, a ∈ ss → a ∈ ss') : Fr cs' ss' μ μ' := ⟨f.1, f.2.1, f.2.2.1, f.2.2.2.1, fun a g1 g2 => f.2.2.2.2.1 a g1 (fun e => g2 (h1 a e)), fun k g => f.2.2.2.2.2 k (fun e => g (h2 k e))⟩
theorem Cn_eq {μ μ' : p_M} (h1 : mC μ' = mC μ) (h2 : mS μ' = mS μ) : Cn μ μ' := ⟨by rw [h1]; exact Nat.le_add_right _ _, by rw [h2]; exact Nat.le_add_right _ _⟩
theorem Cn_g {μ μ' : p_M} (h1 : mC μ' = mC μ + 1) (h2 : mS μ' = mS μ + 6) : Cn μ μ' := ⟨by rw [h1]; exact Nat.add_le_add_left (by decide) _, by rw [h2]; exact Nat.add_le_add_left (by decide) _⟩
/-- the class threw: the Model has its number -/
theorem thr_fr {μ : p_M} {v : Int32} : Fr [] [0] μ (sI (sI (sG μ 1 6) 65 0 0) 65 0 v) := Fr_s65 (Fr_s65 (Fr_sG (Fr_refl μ)) (by decide)) (by decide)
theorem thr_post {μ : p_M} {v b : Int32} (h : ¬ v = 0) : Post v b μ (sI (sI (sG μ 1 6) 65 0 0) 65 0 v) := ⟨by rw [mI_sI, if_pos rfl, z_up, if_pos rfl], fun e => absurd e h, Cn_g rfl rfl⟩
/-- an index that both sides ask for -/
theorem ix3 (v N M : Int32) (n : Nat) (hn : n < 2 ^ 31) (hN : N = nI n) (hM : M = nI n - 1) : (¬ (0 ≤ v ∧ v < N) ∧ ¬ (0 ≤ v ∧ v ≤ M)) ∨ ∃ j : Nat, j < n ∧ v = nI j ∧ (0 ≤ nI j ∧ nI j < N) ∧ (0 ≤ nI j ∧ nI j ≤ M) ∧ ¬ nI j < 0 ∧ (nI j).toNatClampNeg = j := by
  subst hN hM
  have hpr : ∀ x : Int32, 0 ≤ x → nI n ≤ x → ¬ x ≤ nI n - 1 := fun x h0 h1 h2 => by
    cases n with
    | zero => rw [Int32.le_iff_toInt_le] at h0 h2; exact absurd (Int.le_trans h0 h2) (by decide)
    | succ n =>
      rw [nI_pred] at h2
      have h3 : nI n < nI (n + 1) := nI_lt (Nat.lt_succ_self n) hn
      rw [Int32.le_iff_toInt_le] at *
      rw [Int32.lt_iff_toInt_lt] at h3
      omega
  rcases pk_ix v hn with h | h | ⟨j, hj, rfl⟩
  · exact Or.inl ⟨fun c => i_nle.mpr h c.1, fun c => i_nle.mpr h c.1⟩
  · exact Or.inl ⟨fun c => i_nle.mpr c.2 h, fun c => hpr v c.1 h c.2⟩
  · refine Or.inr ⟨j, hj, rfl, ⟨nI_pos' (by omega), nI_lt hj hn⟩, ⟨nI_pos' (by omega), ?_⟩, nI_pos (by omega), nI_clamp (by omega)⟩
    cases n with
    | zero => omega
    | succ n => rw [nI_pred]; exact nI_le (by omega) (by omega)
/-- a number between bounds -/
theorem rg3 (v : Int32) (lo hi : Nat) (L H : Int32) (hL : L = nI lo) (hH : H = nI hi) (hh : hi < 2 ^ 31) (hlo : lo < 2 ^ 31) (h : L ≤ v ∧ v ≤ H) : ∃ j : Nat, lo ≤ j ∧ j ≤ hi ∧ v = nI j := by
  subst hL hH
  have h0 : ¬ v < 0 := by
    have h1 := nI_pos' hlo
    have h2 := h.1
    rw [Int32.le_iff_toInt_le] at h1 h2
    rw [Int32.lt_iff_toInt_lt]
    have : (0 : Int32).toInt = 0 := rfl
    omega
  obtain ⟨j, hj, rfl⟩ := nI_of h0
  exact ⟨j, (nI_leI hlo hj).mp h.1, (nI_leI hj hh).mp h.2, rfl⟩
theorem m_noKind (v : Int32) (μ : p_M) : F_X13_noKind v μ = some (bI (¬ (0 ≤ v ∧ v ≤ 5)), μ) := by
  unfold F_X13_noKind F_X13_noKind_c14
  rw [m_in]
  by_cases h : 0 ≤ v ∧ v ≤ 5
  · rw [bI_pos h, bI_neg (fun e => e h)]; rfl
  · rw [bI_neg h, bI_pos h]; rfl
def PostZ (k b : Int32) (μ μ' : p_M) : Prop := mI μ' 65 0 = k ∧ (k = 0 → mJ μ' 112 0 = if b = 0 then 0 else 1) ∧ Cn μ μ'
def PostV (k : Int32) (μ μ' : p_M) : Prop := mI μ' 65 0 = k ∧ Cn μ μ'
theorem thr_postV {μ : p_M} {v : Int32} : PostV v μ (sI (sI (sG μ 1 6) 65 0 0) 65 0 v) := ⟨by rw [mI_sI, if_pos rfl, z_up, if_pos rfl], Cn_g rfl rfl⟩
theorem thr_postZ {μ : p_M} {v b : Int32} (h : ¬ v = 0) : PostZ v b μ (sI (sI (sG μ 1 6) 65 0 0) 65 0 v) := ⟨by rw [mI_sI, if_pos rfl, z_up, if_pos rfl], fun e => absurd e h, Cn_g rfl rfl⟩
