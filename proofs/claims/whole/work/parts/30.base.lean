/-! reading a changed memory -/
section MB
variable {μ : p_M} {a b k n m len sl : Nat}
theorem z_up {α : Type} (f : Nat → α) (k : Nat) (v : α) (j : Nat) : va_up f k v j = if j = k then v else f j := rfl
theorem mI_sI (v : Int32) : mI (sI μ a k v) b = if b = a then va_up (mI μ a) k v else mI μ b := by
  show va_up μ.1 a (va_up (μ.1 a) k v) b = _
  rw [z_up]
  rfl
theorem mR_sI (v : Int32) : mR (sI μ a k v) = mR μ := rfl
theorem mJ_sI (v : Int32) : mJ (sI μ a k v) = mJ μ := rfl
theorem mK_sI (v : Int32) : mK (sI μ a k v) = mK μ := rfl
theorem mL_sI (v : Int32) : mL (sI μ a k v) = mL μ := rfl
theorem mN_sI (v : Int32) : mN (sI μ a k v) = mN μ := rfl
theorem mC_sI (v : Int32) : mC (sI μ a k v) = mC μ := rfl
theorem mS_sI (v : Int32) : mS (sI μ a k v) = mS μ := rfl
theorem mI_sG : mI (sG μ n m) = mI μ := rfl
theorem mR_sG : mR (sG μ n m) = mR μ := rfl
theorem mJ_sG : mJ (sG μ n m) = mJ μ := rfl
theorem mK_sG : mK (sG μ n m) = mK μ := rfl
theorem mL_sG : mL (sG μ n m) = mL μ := rfl
theorem mN_sG : mN (sG μ n m) = mN μ := rfl
theorem mC_sG : mC (sG μ n m) = mC μ + n := rfl
theorem mS_sG : mS (sG μ n m) = mS μ + m := rfl
theorem mI_sJ (v : Int64) : mI (sJ μ a k v) = mI μ := rfl
theorem mR_sJ (v : Int64) : mR (sJ μ a k v) = mR μ := rfl
theorem mK_sJ (v : Int64) : mK (sJ μ a k v) = mK μ := rfl
theorem mL_sJ (v : Int64) : mL (sJ μ a k v) = mL μ := rfl
theorem mN_sJ (v : Int64) : mN (sJ μ a k v) = mN μ := rfl
theorem mC_sJ (v : Int64) : mC (sJ μ a k v) = mC μ := rfl
theorem mS_sJ (v : Int64) : mS (sJ μ a k v) = mS μ := rfl
theorem mJ_sJ (v : Int64) : mJ (sJ μ a k v) a k = v := by
  show va_up μ.2.2.1 a (va_up (μ.2.2.1 a) k v) a k = _
  rw [va_up_self, va_up_self]
theorem mI_sR (v : Option Nat) : mI (sR μ a k v) = mI μ := rfl
theorem mJ_sR (v : Option Nat) : mJ (sR μ a k v) = mJ μ := rfl
theorem mK_sR (v : Option Nat) : mK (sR μ a k v) = mK μ := rfl
theorem mL_sR (v : Option Nat) : mL (sR μ a k v) = mL μ := rfl
theorem mN_sR (v : Option Nat) : mN (sR μ a k v) = mN μ := rfl
theorem mC_sR (v : Option Nat) : mC (sR μ a k v) = mC μ := rfl
theorem mS_sR (v : Option Nat) : mS (sR μ a k v) = mS μ := rfl
theorem mR_sR (v : Option Nat) : mR (sR μ a k v) b = if b = a then va_up (mR μ a) k v else mR μ b := by
  show va_up μ.2.1 a (va_up (μ.2.1 a) k v) b = _
  rw [z_up]
  rfl
theorem mI_sA (f : Nat → Int32) : mI (sA μ a f) b = if b = a then f else mI μ b := rfl
theorem mR_sA (f : Nat → Int32) : mR (sA μ a f) = mR μ := rfl
theorem mJ_sA (f : Nat → Int32) : mJ (sA μ a f) = mJ μ := rfl
theorem mK_sA (f : Nat → Int32) : mK (sA μ a f) = mK μ := rfl
theorem mL_sA (f : Nat → Int32) : mL (sA μ a f) = mL μ := rfl
theorem mN_sA (f : Nat → Int32) : mN (sA μ a f) = mN μ := rfl
theorem mC_sA (f : Nat → Int32) : mC (sA μ a f) = mC μ := rfl
theorem mS_sA (f : Nat → Int32) : mS (sA μ a f) = mS μ := rfl
theorem mI_sN : mI (sN μ k len sl) b = if b = mN μ then (fun _ => 0) else mI μ b := rfl
theorem mR_sN : mR (sN μ k len sl) b = if b = mN μ then (fun _ => none) else mR μ b := rfl
theorem mJ_sN : mJ (sN μ k len sl) b = if b = mN μ then (fun _ => 0) else mJ μ b := rfl
theorem mK_sN : mK (sN μ k len sl) b = if b = mN μ then k else mK μ b := rfl
theorem mL_sN : mL (sN μ k len sl) b = if b = mN μ then len else mL μ b := rfl
theorem mN_sN : mN (sN μ k len sl) = mN μ + 1 := rfl
theorem mC_sN : mC (sN μ k len sl) = mC μ + 1 := rfl
theorem mS_sN : mS (sN μ k len sl) = mS μ + sl := rfl
end MB
theorem p_okp {α : Type} {c : Prop} [Decidable c] {k : Option α} (h : c) : p_ok c k = k := if_pos h
theorem bd_some {α β : Type} (x : α) (f : α → Option β) : (some x).bind f = f x := rfl
theorem p_let_eq {α β : Type} (x : α) (f : α → Option β) : p_let x f = f x := rfl
/-- a truth as a number -/
def bI (c : Prop) [Decidable c] : Int32 := if c then 1 else 0
theorem bI_pos {c : Prop} [Decidable c] (h : c) : bI c = 1 := if_pos h
theorem bI_neg {c : Prop} [Decidable c] (h : ¬ c) : bI c = 0 := if_neg h
theorem bI_0 {c : Prop} [Decidable c] : bI c = 0 ↔ ¬ c := by
  by_cases h : c
  · rw [bI_pos h]; exact ⟨fun e => absurd e (by decide), fun e => absurd h e⟩
  · rw [bI_neg h]; exact ⟨fun _ => h, fun _ => rfl⟩
theorem bI_01 {c : Prop} [Decidable c] : bI c = 0 ∨ bI c = 1 := by
  by_cases h : c
  · exact Or.inr (bI_pos h)
  · exact Or.inl (bI_neg h)
theorem i_nlt {a b : Int32} : ¬ a < b ↔ b ≤ a := by rw [Int32.lt_iff_toInt_lt, Int32.le_iff_toInt_le]; omega
theorem i_nle {a b : Int32} : ¬ a ≤ b ↔ b < a := by rw [Int32.lt_iff_toInt_lt, Int32.le_iff_toInt_le]; omega
/-! the small helpers of both sides -/
theorem w_in (v lo hi : Int32) (μ : p_M) : F_X12_within v lo hi μ = some (bI (lo ≤ v ∧ v ≤ hi), μ) := by
  unfold F_X12_within F_X12_within_c14 F_X12_within_c15
  by_cases h1 : v < lo
  · rw [if_pos h1, bI_neg (fun h => i_nle.mpr h1 h.1)]; rfl
  · rw [if_neg h1]
    by_cases h2 : hi < v
    · rw [if_pos h2, bI_neg (fun h => i_nle.mpr h2 h.2)]; rfl
    · rw [if_neg h2, bI_pos ⟨i_nlt.mp h1, i_nlt.mp h2⟩]; rfl
theorem m_in (v lo hi : Int32) (μ : p_M) : F_X13_in v lo hi μ = some (bI (lo ≤ v ∧ v ≤ hi), μ) := by
  unfold F_X13_in F_X13_in_c14 F_X13_in_c15
  by_cases h1 : v < lo
  · rw [if_pos h1, bI_neg (fun h => i_nle.mpr h1 h.1)]; rfl
  · rw [if_neg h1]
    by_cases h2 : hi < v
    · rw [if_pos h2, bI_neg (fun h => i_nle.mpr h2 h.2)]; rfl
    · rw [if_neg h2, bI_pos ⟨i_nlt.mp h1, i_nlt.mp h2⟩]; rfl
theorem w_need (v : Int32) (μ : p_M) : F_X12_need v μ = if v = 0 then some (1, 0, sG μ 1 6) else some (0, 0, μ) := by
  unfold F_X12_need
  by_cases h : v = 0
  · rw [if_neg (fun e => e h), if_pos h]
  · rw [if_pos h, if_neg h]
theorem w_ix (v n : Int32) (μ : p_M) : F_X12_needIndex v n μ = if 0 ≤ v ∧ v < n then some (0, 0, μ) else some (3, 0, sG μ 1 6) := by
  unfold F_X12_needIndex F_X12_needIndex_c9
  by_cases h1 : v < 0
  · rw [if_pos h1, if_neg (fun h => i_nle.mpr h1 h.1)]
  · rw [if_neg h1]
    by_cases h2 : v < n
    · rw [if_pos h2, if_pos ⟨i_nlt.mp h1, h2⟩]
    · rw [if_neg h2, if_neg (fun h => h2 h.2)]
theorem w_what (v n : Int32) (μ : p_M) : F_X12_needWhat v n μ = if 0 ≤ v ∧ v ≤ n then some (0, 0, μ) else some (4, 0, sG μ 1 6) := by
  unfold F_X12_needWhat F_X12_needWhat_c9
  by_cases h1 : v < 0
  · rw [if_pos h1, if_neg (fun h => i_nle.mpr h1 h.1)]
  · rw [if_neg h1]
    by_cases h2 : v ≤ n
    · rw [if_pos h2, if_pos ⟨i_nlt.mp h1, h2⟩]
    · rw [if_neg h2, if_neg (fun h => h2 h.2)]
theorem w_room (v n : Int32) (μ : p_M) : F_X12_needRoom v n μ = if v < n then some (0, 0, μ) else some (2, 0, sG μ 1 6) := rfl
theorem m_thr (c : Prop) [Decidable c] (v : Int32) (μ : p_M) : F_X13_throwsIf (bI c) v μ = if c then some (1, sI μ 65 0 v) else some (0, μ) := by
  unfold F_X13_throwsIf F_X13_throwsIf_c9
  by_cases h : c
  · rw [bI_pos h, if_pos h]; rfl
  · rw [bI_neg h, if_neg h]; rfl
theorem m_thr0 (v : Int32) (μ : p_M) : F_X13_throwsIf 0 v μ = some (0, μ) := rfl
theorem m_thr1 (v : Int32) (μ : p_M) : F_X13_throwsIf 1 v μ = some (1, sI μ 65 0 v) := rfl
/-! cells of the class by number: kind, length, and the references that never change -/
def kCl : Nat → Nat := fun a => match a with
  | 0 => 13
  | 1 => 11
  | 2 => 21
  | 3 => 23
  | 4 => 9
  | 5 => 20
  | 6 => 20
  | 7 => 9
  | 8 => 20
  | 9 => 20
  | 10 => 2
  | 11 => 20
  | 12 => 2
  | 13 => 20
  | 14 => 4
  | 15 => 10
  | 16 => 23
  | 17 => 20
  | 18 => 20
  | 19 => 4
  | 20 => 4
  | 21 => 4
  | 22 => 4
  | 23 => 4
  | 24 => 4
  | 25 => 4
  | 26 => 3
  | 27 => 20
  | 28 => 20
  | 29 => 20
  | 30 => 12
  | 31 => 20
  | 32 => 20
  | 33 => 20
  | 34 => 1
  | 35 => 20
  | 36 => 24
  | 37 => 0
  | 38 => 7
  | 39 => 20
  | 40 => 20
  | 41 => 20
  | 42 => 20
  | 43 => 20
  | 44 => 20
  | 45 => 20
  | 46 => 8
  | 47 => 20
  | 48 => 26
  | 49 => 20
  | 50 => 20
  | 51 => 4
  | 52 => 4
  | 53 => 4
  | 54 => 4
  | 55 => 4
  | 56 => 4
  | 57 => 6
  | 58 => 20
  | 59 => 6
  | 60 => 20
  | 61 => 6
  | 62 => 20
  | 63 => 6
  | 64 => 20
  | _ => 0
def lCl : Nat → Nat := fun a => match a with
  | 2 => 400
  | 3 => 6
  | 5 => 20
  | 6 => 20
  | 8 => 20
  | 9 => 20
  | 11 => 18
  | 13 => 18
  | 16 => 7
  | 17 => 6
  | 18 => 6
  | 27 => 36
  | 28 => 9
  | 29 => 4608
  | 31 => 5
  | 32 => 5
  | 33 => 5
  | 35 => 40
  | 36 => 4
  | 39 => 250
  | 40 => 250
  | 41 => 250
  | 42 => 250
  | 43 => 250
  | 44 => 250
  | 45 => 257
  | 47 => 24
  | 48 => 2
  | 49 => 96
  | 50 => 96
  | 58 => 40
  | 60 => 40
  | 62 => 40
  | 64 => 40
  | _ => 0
def rCl : List (Nat × Nat × Nat) := [(0, 0, 1), (0, 1, 3), (0, 7, 14), (0, 8, 15), (0, 9, 26), (0, 10, 30), (0, 11, 34), (0, 12, 36), (0, 14, 37), (0, 16, 38), (0, 19, 46), (1, 0, 2), (3, 0, 51), (3, 1, 52), (3, 2, 53), (3, 3, 54), (3, 4, 55), (3, 5, 56), (4, 0, 5), (4, 1, 6), (7, 0, 8), (7, 1, 9), (10, 0, 11), (12, 0, 13), (15, 0, 16), (15, 1, 17), (15, 2, 18), (16, 0, 19), (16, 1, 20), (16, 2, 21), (16, 3, 22), (16, 4, 23), (16, 5, 24), (16, 6, 25), (26, 0, 27), (26, 1, 28), (26, 3, 29), (30, 0, 31), (30, 1, 32), (30, 2, 33), (34, 0, 35), (36, 0, 57), (36, 1, 59), (36, 2, 61), (36, 3, 63), (38, 0, 39), (38, 1, 40), (38, 2, 41), (38, 5, 42), (38, 6, 43), (38, 7, 44), (38, 8, 45), (46, 0, 47), (46, 3, 48), (48, 0, 49), (48, 1, 50), (57, 1, 58), (59, 1, 60), (61, 1, 62), (63, 1, 64)]
/-- the shape of the class's cells and of the Model's -/
def Sh (μ : p_M) : Prop := ShM μ ∧ 113 ≤ mN μ ∧ mN μ < p_E ∧ (∀ a, a < 65 → mK μ a = kCl a ∧ mL μ a = lCl a) ∧ (∀ e, e ∈ rCl → mR μ e.1 e.2.1 = some e.2.2) ∧ mK μ 112 = 22 ∧ mL μ 112 = 1
theorem sh_e {a : Nat} (ha : a < 113) : a < p_E := Nat.lt_of_lt_of_le ha (Nat.le_of_ble_eq_true rfl)
section SH
variable {μ : p_M}
theorem s_o0 (h : Sh μ) : mK μ 0 = 13 ∧ 0 < mN μ := ⟨(h.2.2.2.1 0 (by decide)).1, Nat.lt_of_lt_of_le (by decide) h.2.1⟩
theorem s_o1 (h : Sh μ) : mK μ 1 = 11 ∧ 1 < mN μ := ⟨(h.2.2.2.1 1 (by decide)).1, Nat.lt_of_lt_of_le (by decide) h.2.1⟩
theorem s_o2 (h : Sh μ) : mK μ 2 = 21 ∧ 2 < mN μ := ⟨(h.2.2.2.1 2 (by decide)).1, Nat.lt_of_lt_of_le (by decide) h.2.1⟩
theorem s_l2 (h : Sh μ) : mL μ 2 = 400 := (h.2.2.2.1 2 (by decide)).2
theorem s_a2 (h : Sh μ) : 2 < p_E ∧ mK μ 2 = 21 ∧ 2 < mN μ := ⟨sh_e (by decide), s_o2 h⟩
theorem s_o3 (h : Sh μ) : mK μ 3 = 23 ∧ 3 < mN μ := ⟨(h.2.2.2.1 3 (by decide)).1, Nat.lt_of_lt_of_le (by decide) h.2.1⟩
theorem s_l3 (h : Sh μ) : mL μ 3 = 6 := (h.2.2.2.1 3 (by decide)).2
theorem s_a3 (h : Sh μ) : 3 < p_E ∧ mK μ 3 = 23 ∧ 3 < mN μ := ⟨sh_e (by decide), s_o3 h⟩
theorem s_o4 (h : Sh μ) : mK μ 4 = 9 ∧ 4 < mN μ := ⟨(h.2.2.2.1 4 (by decide)).1, Nat.lt_of_lt_of_le (by decide) h.2.1⟩
theorem s_o5 (h : Sh μ) : mK μ 5 = 20 ∧ 5 < mN μ := ⟨(h.2.2.2.1 5 (by decide)).1, Nat.lt_of_lt_of_le (by decide) h.2.1⟩
theorem s_l5 (h : Sh μ) : mL μ 5 = 20 := (h.2.2.2.1 5 (by decide)).2
theorem s_a5 (h : Sh μ) : 5 < p_E ∧ mK μ 5 = 20 ∧ 5 < mN μ := ⟨sh_e (by decide), s_o5 h⟩
theorem s_o6 (h : Sh μ) : mK μ 6 = 20 ∧ 6 < mN μ := ⟨(h.2.2.2.1 6 (by decide)).1, Nat.lt_of_lt_of_le (by decide) h.2.1⟩
theorem s_l6 (h : Sh μ) : mL μ 6 = 20 := (h.2.2.2.1 6 (by decide)).2
theorem s_a6 (h : Sh μ) : 6 < p_E ∧ mK μ 6 = 20 ∧ 6 < mN μ := ⟨sh_e (by decide), s_o6 h⟩
theorem s_o7 (h : Sh μ) : mK μ 7 = 9 ∧ 7 < mN μ := ⟨(h.2.2.2.1 7 (by decide)).1, Nat.lt_of_lt_of_le (by decide) h.2.1⟩
theorem s_o8 (h : Sh μ) : mK μ 8 = 20 ∧ 8 < mN μ := ⟨(h.2.2.2.1 8 (by decide)).1, Nat.lt_of_lt_of_le (by decide) h.2.1⟩
theorem s_l8 (h : Sh μ) : mL μ 8 = 20 := (h.2.2.2.1 8 (by decide)).2
theorem s_a8 (h : Sh μ) : 8 < p_E ∧ mK μ 8 = 20 ∧ 8 < mN μ := ⟨sh_e (by decide), s_o8 h⟩
theorem s_o9 (h : Sh μ) : mK μ 9 = 20 ∧ 9 < mN μ := ⟨(h.2.2.2.1 9 (by decide)).1, Nat.lt_of_lt_of_le (by decide) h.2.1⟩
theorem s_l9 (h : Sh μ) : mL μ 9 = 20 := (h.2.2.2.1 9 (by decide)).2
theorem s_a9 (h : Sh μ) : 9 < p_E ∧ mK μ 9 = 20 ∧ 9 < mN μ := ⟨sh_e (by decide), s_o9 h⟩
theorem s_o10 (h : Sh μ) : mK μ 10 = 2 ∧ 10 < mN μ := ⟨(h.2.2.2.1 10 (by decide)).1, Nat.lt_of_lt_of_le (by decide) h.2.1⟩
theorem s_o11 (h : Sh μ) : mK μ 11 = 20 ∧ 11 < mN μ := ⟨(h.2.2.2.1 11 (by decide)).1, Nat.lt_of_lt_of_le (by decide) h.2.1⟩
theorem s_l11 (h : Sh μ) : mL μ 11 = 18 := (h.2.2.2.1 11 (by decide)).2
theorem s_a11 (h : Sh μ) : 11 < p_E ∧ mK μ 11 = 20 ∧ 11 < mN μ := ⟨sh_e (by decide), s_o11 h⟩
theorem s_o12 (h : Sh μ) : mK μ 12 = 2 ∧ 12 < mN μ := ⟨(h.2.2.2.1 12 (by decide)).1, Nat.lt_of_lt_of_le (by decide) h.2.1⟩
theorem s_o13 (h : Sh μ) : mK μ 13 = 20 ∧ 13 < mN μ := ⟨(h.2.2.2.1 13 (by decide)).1, Nat.lt_of_lt_of_le (by decide) h.2.1⟩
theorem s_l13 (h : Sh μ) : mL μ 13 = 18 := (h.2.2.2.1 13 (by decide)).2
theorem s_a13 (h : Sh μ) : 13 < p_E ∧ mK μ 13 = 20 ∧ 13 < mN μ := ⟨sh_e (by decide), s_o13 h⟩
theorem s_o14 (h : Sh μ) : mK μ 14 = 4 ∧ 14 < mN μ := ⟨(h.2.2.2.1 14 (by decide)).1, Nat.lt_of_lt_of_le (by decide) h.2.1⟩
theorem s_o15 (h : Sh μ) : mK μ 15 = 10 ∧ 15 < mN μ := ⟨(h.2.2.2.1 15 (by decide)).1, Nat.lt_of_lt_of_le (by decide) h.2.1⟩
theorem s_o16 (h : Sh μ) : mK μ 16 = 23 ∧ 16 < mN μ := ⟨(h.2.2.2.1 16 (by decide)).1, Nat.lt_of_lt_of_le (by decide) h.2.1⟩
theorem s_l16 (h : Sh μ) : mL μ 16 = 7 := (h.2.2.2.1 16 (by decide)).2
theorem s_a16 (h : Sh μ) : 16 < p_E ∧ mK μ 16 = 23 ∧ 16 < mN μ := ⟨sh_e (by decide), s_o16 h⟩
theorem s_o17 (h : Sh μ) : mK μ 17 = 20 ∧ 17 < mN μ := ⟨(h.2.2.2.1 17 (by decide)).1, Nat.lt_of_lt_of_le (by decide) h.2.1⟩
theorem s_l17 (h : Sh μ) : mL μ 17 = 6 := (h.2.2.2.1 17 (by decide)).2
theorem s_a17 (h : Sh μ) : 17 < p_E ∧ mK μ 17 = 20 ∧ 17 < mN μ := ⟨sh_e (by decide), s_o17 h⟩
theorem s_o18 (h : Sh μ) : mK μ 18 = 20 ∧ 18 < mN μ := ⟨(h.2.2.2.1 18 (by decide)).1, Nat.lt_of_lt_of_le (by decide) h.2.1⟩
theorem s_l18 (h : Sh μ) : mL μ 18 = 6 := (h.2.2.2.1 18 (by decide)).2
theorem s_a18 (h : Sh μ) : 18 < p_E ∧ mK μ 18 = 20 ∧ 18 < mN μ := ⟨sh_e (by decide), s_o18 h⟩
theorem s_o19 (h : Sh μ) : mK μ 19 = 4 ∧ 19 < mN μ := ⟨(h.2.2.2.1 19 (by decide)).1, Nat.lt_of_lt_of_le (by decide) h.2.1⟩
theorem s_o20 (h : Sh μ) : mK μ 20 = 4 ∧ 20 < mN μ := ⟨(h.2.2.2.1 20 (by decide)).1, Nat.lt_of_lt_of_le (by decide) h.2.1⟩
theorem s_o21 (h : Sh μ) : mK μ 21 = 4 ∧ 21 < mN μ := ⟨(h.2.2.2.1 21 (by decide)).1, Nat.lt_of_lt_of_le (by decide) h.2.1⟩
theorem s_o22 (h : Sh μ) : mK μ 22 = 4 ∧ 22 < mN μ := ⟨(h.2.2.2.1 22 (by decide)).1, Nat.lt_of_lt_of_le (by decide) h.2.1⟩
theorem s_o23 (h : Sh μ) : mK μ 23 = 4 ∧ 23 < mN μ := ⟨(h.2.2.2.1 23 (by decide)).1, Nat.lt_of_lt_of_le (by decide) h.2.1⟩
theorem s_o24 (h : Sh μ) : mK μ 24 = 4 ∧ 24 < mN μ := ⟨(h.2.2.2.1 24 (by decide)).1, Nat.lt_of_lt_of_le (by decide) h.2.1⟩
theorem s_o25 (h : Sh μ) : mK μ 25 = 4 ∧ 25 < mN μ := ⟨(h.2.2.2.1 25 (by decide)).1, Nat.lt_of_lt_of_le (by decide) h.2.1⟩
theorem s_o26 (h : Sh μ) : mK μ 26 = 3 ∧ 26 < mN μ := ⟨(h.2.2.2.1 26 (by decide)).1, Nat.lt_of_lt_of_le (by decide) h.2.1⟩
theorem s_o27 (h : Sh μ) : mK μ 27 = 20 ∧ 27 < mN μ := ⟨(h.2.2.2.1 27 (by decide)).1, Nat.lt_of_lt_of_le (by decide) h.2.1⟩
theorem s_l27 (h : Sh μ) : mL μ 27 = 36 := (h.2.2.2.1 27 (by decide)).2
theorem s_a27 (h : Sh μ) : 27 < p_E ∧ mK μ 27 = 20 ∧ 27 < mN μ := ⟨sh_e (by decide), s_o27 h⟩
theorem s_o28 (h : Sh μ) : mK μ 28 = 20 ∧ 28 < mN μ := ⟨(h.2.2.2.1 28 (by decide)).1, Nat.lt_of_lt_of_le (by decide) h.2.1⟩
theorem s_l28 (h : Sh μ) : mL μ 28 = 9 := (h.2.2.2.1 28 (by decide)).2
theorem s_a28 (h : Sh μ) : 28 < p_E ∧ mK μ 28 = 20 ∧ 28 < mN μ := ⟨sh_e (by decide), s_o28 h⟩
theorem s_o29 (h : Sh μ) : mK μ 29 = 20 ∧ 29 < mN μ := ⟨(h.2.2.2.1 29 (by decide)).1, Nat.lt_of_lt_of_le (by decide) h.2.1⟩
theorem s_l29 (h : Sh μ) : mL μ 29 = 4608 := (h.2.2.2.1 29 (by decide)).2
theorem s_a29 (h : Sh μ) : 29 < p_E ∧ mK μ 29 = 20 ∧ 29 < mN μ := ⟨sh_e (by decide), s_o29 h⟩
theorem s_o30 (h : Sh μ) : mK μ 30 = 12 ∧ 30 < mN μ := ⟨(h.2.2.2.1 30 (by decide)).1, Nat.lt_of_lt_of_le (by decide) h.2.1⟩
theorem s_o31 (h : Sh μ) : mK μ 31 = 20 ∧ 31 < mN μ := ⟨(h.2.2.2.1 31 (by decide)).1, Nat.lt_of_lt_of_le (by decide) h.2.1⟩
theorem s_l31 (h : Sh μ) : mL μ 31 = 5 := (h.2.2.2.1 31 (by decide)).2
theorem s_a31 (h : Sh μ) : 31 < p_E ∧ mK μ 31 = 20 ∧ 31 < mN μ := ⟨sh_e (by decide), s_o31 h⟩
theorem s_o32 (h : Sh μ) : mK μ 32 = 20 ∧ 32 < mN μ := ⟨(h.2.2.2.1 32 (by decide)).1, Nat.lt_of_lt_of_le (by decide) h.2.1⟩
theorem s_l32 (h : Sh μ) : mL μ 32 = 5 := (h.2.2.2.1 32 (by decide)).2
theorem s_a32 (h : Sh μ) : 32 < p_E ∧ mK μ 32 = 20 ∧ 32 < mN μ := ⟨sh_e (by decide), s_o32 h⟩
theorem s_o33 (h : Sh μ) : mK μ 33 = 20 ∧ 33 < mN μ := ⟨(h.2.2.2.1 33 (by decide)).1, Nat.lt_of_lt_of_le (by decide) h.2.1⟩
theorem s_l33 (h : Sh μ) : mL μ 33 = 5 := (h.2.2.2.1 33 (by decide)).2
theorem s_a33 (h : Sh μ) : 33 < p_E ∧ mK μ 33 = 20 ∧ 33 < mN μ := ⟨sh_e (by decide), s_o33 h⟩
theorem s_o34 (h : Sh μ) : mK μ 34 = 1 ∧ 34 < mN μ := ⟨(h.2.2.2.1 34 (by decide)).1, Nat.lt_of_lt_of_le (by decide) h.2.1⟩
theorem s_o35 (h : Sh μ) : mK μ 35 = 20 ∧ 35 < mN μ := ⟨(h.2.2.2.1 35 (by decide)).1, Nat.lt_of_lt_of_le (by decide) h.2.1⟩
theorem s_l35 (h : Sh μ) : mL μ 35 = 40 := (h.2.2.2.1 35 (by decide)).2
theorem s_a35 (h : Sh μ) : 35 < p_E ∧ mK μ 35 = 20 ∧ 35 < mN μ := ⟨sh_e (by decide), s_o35 h⟩
theorem s_o36 (h : Sh μ) : mK μ 36 = 24 ∧ 36 < mN μ := ⟨(h.2.2.2.1 36 (by decide)).1, Nat.lt_of_lt_of_le (by decide) h.2.1⟩
theorem s_l36 (h : Sh μ) : mL μ 36 = 4 := (h.2.2.2.1 36 (by decide)).2
theorem s_a36 (h : Sh μ) : 36 < p_E ∧ mK μ 36 = 24 ∧ 36 < mN μ := ⟨sh_e (by decide), s_o36 h⟩
theorem s_o37 (h : Sh μ) : mK μ 37 = 0 ∧ 37 < mN μ := ⟨(h.2.2.2.1 37 (by decide)).1, Nat.lt_of_lt_of_le (by decide) h.2.1⟩
theorem s_o38 (h : Sh μ) : mK μ 38 = 7 ∧ 38 < mN μ := ⟨(h.2.2.2.1 38 (by decide)).1, Nat.lt_of_lt_of_le (by decide) h.2.1⟩
theorem s_o39 (h : Sh μ) : mK μ 39 = 20 ∧ 39 < mN μ := ⟨(h.2.2.2.1 39 (by decide)).1, Nat.lt_of_lt_of_le (by decide) h.2.1⟩
theorem s_l39 (h : Sh μ) : mL μ 39 = 250 := (h.2.2.2.1 39 (by decide)).2
theorem s_a39 (h : Sh μ) : 39 < p_E ∧ mK μ 39 = 20 ∧ 39 < mN μ := ⟨sh_e (by decide), s_o39 h⟩
theorem s_o40 (h : Sh μ) : mK μ 40 = 20 ∧ 40 < mN μ := ⟨(h.2.2.2.1 40 (by decide)).1, Nat.lt_of_lt_of_le (by decide) h.2.1⟩
theorem s_l40 (h : Sh μ) : mL μ 40 = 250 := (h.2.2.2.1 40 (by decide)).2
theorem s_a40 (h : Sh μ) : 40 < p_E ∧ mK μ 40 = 20 ∧ 40 < mN μ := ⟨sh_e (by decide), s_o40 h⟩
theorem s_o41 (h : Sh μ) : mK μ 41 = 20 ∧ 41 < mN μ := ⟨(h.2.2.2.1 41 (by decide)).1, Nat.lt_of_lt_of_le (by decide) h.2.1⟩
theorem s_l41 (h : Sh μ) : mL μ 41 = 250 := (h.2.2.2.1 41 (by decide)).2
theorem s_a41 (h : Sh μ) : 41 < p_E ∧ mK μ 41 = 20 ∧ 41 < mN μ := ⟨sh_e (by decide), s_o41 h⟩
theorem s_o42 (h : Sh μ) : mK μ 42 = 20 ∧ 42 < mN μ := ⟨(h.2.2.2.1 42 (by decide)).1, Nat.lt_of_lt_of_le (by decide) h.2.1⟩
theorem s_l42 (h : Sh μ) : mL μ 42 = 250 := (h.2.2.2.1 42 (by decide)).2
theorem s_a42 (h : Sh μ) : 42 < p_E ∧ mK μ 42 = 20 ∧ 42 < mN μ := ⟨sh_e (by decide), s_o42 h⟩
theorem s_o43 (h : Sh μ) : mK μ 43 = 20 ∧ 43 < mN μ := ⟨(h.2.2.2.1 43 (by decide)).1, Nat.lt_of_lt_of_le (by decide) h.2.1⟩
theorem s_l43 (h : Sh μ) : mL μ 43 = 250 := (h.2.2.2.1 43 (by decide)).2
theorem s_a43 (h : Sh μ) : 43 < p_E ∧ mK μ 43 = 20 ∧ 43 < mN μ := ⟨sh_e (by decide), s_o43 h⟩
theorem s_o44 (h : Sh μ) : mK μ 44 = 20 ∧ 44 < mN μ := ⟨(h.2.2.2.1 44 (by decide)).1, Nat.lt_of_lt_of_le (by decide) h.2.1⟩
theorem s_l44 (h : Sh μ) : mL μ 44 = 250 := (h.2.2.2.1 44 (by decide)).2
theorem s_a44 (h : Sh μ) : 44 < p_E ∧ mK μ 44 = 20 ∧ 44 < mN μ := ⟨sh_e (by decide), s_o44 h⟩
theorem s_o45 (h : Sh μ) : mK μ 45 = 20 ∧ 45 < mN μ := ⟨(h.2.2.2.1 45 (by decide)).1, Nat.lt_of_lt_of_le (by decide) h.2.1⟩
theorem s_l45 (h : Sh μ) : mL μ 45 = 257 := (h.2.2.2.1 45 (by decide)).2
theorem s_a45 (h : Sh μ) : 45 < p_E ∧ mK μ 45 = 20 ∧ 45 < mN μ := ⟨sh_e (by decide), s_o45 h⟩
theorem s_o46 (h : Sh μ) : mK μ 46 = 8 ∧ 46 < mN μ := ⟨(h.2.2.2.1 46 (by decide)).1, Nat.lt_of_lt_of_le (by decide) h.2.1⟩
theorem s_o47 (h : Sh μ) : mK μ 47 = 20 ∧ 47 < mN μ := ⟨(h.2.2.2.1 47 (by decide)).1, Nat.lt_of_lt_of_le (by decide) h.2.1⟩
theorem s_l47 (h : Sh μ) : mL μ 47 = 24 := (h.2.2.2.1 47 (by decide)).2
theorem s_a47 (h : Sh μ) : 47 < p_E ∧ mK μ 47 = 20 ∧ 47 < mN μ := ⟨sh_e (by decide), s_o47 h⟩
theorem s_o48 (h : Sh μ) : mK μ 48 = 26 ∧ 48 < mN μ := ⟨(h.2.2.2.1 48 (by decide)).1, Nat.lt_of_lt_of_le (by decide) h.2.1⟩
theorem s_l48 (h : Sh μ) : mL μ 48 = 2 := (h.2.2.2.1 48 (by decide)).2
theorem s_a48 (h : Sh μ) : 48 < p_E ∧ mK μ 48 = 26 ∧ 48 < mN μ := ⟨sh_e (by decide), s_o48 h⟩
theorem s_o49 (h : Sh μ) : mK μ 49 = 20 ∧ 49 < mN μ := ⟨(h.2.2.2.1 49 (by decide)).1, Nat.lt_of_lt_of_le (by decide) h.2.1⟩
theorem s_l49 (h : Sh μ) : mL μ 49 = 96 := (h.2.2.2.1 49 (by decide)).2
theorem s_a49 (h : Sh μ) : 49 < p_E ∧ mK μ 49 = 20 ∧ 49 < mN μ := ⟨sh_e (by decide), s_o49 h⟩
theorem s_o50 (h : Sh μ) : mK μ 50 = 20 ∧ 50 < mN μ := ⟨(h.2.2.2.1 50 (by decide)).1, Nat.lt_of_lt_of_le (by decide) h.2.1⟩
theorem s_l50 (h : Sh μ) : mL μ 50 = 96 := (h.2.2.2.1 50 (by decide)).2
theorem s_a50 (h : Sh μ) : 50 < p_E ∧ mK μ 50 = 20 ∧ 50 < mN μ := ⟨sh_e (by decide), s_o50 h⟩
theorem s_o51 (h : Sh μ) : mK μ 51 = 4 ∧ 51 < mN μ := ⟨(h.2.2.2.1 51 (by decide)).1, Nat.lt_of_lt_of_le (by decide) h.2.1⟩
theorem s_o52 (h : Sh μ) : mK μ 52 = 4 ∧ 52 < mN μ := ⟨(h.2.2.2.1 52 (by decide)).1, Nat.lt_of_lt_of_le (by decide) h.2.1⟩
theorem s_o53 (h : Sh μ) : mK μ 53 = 4 ∧ 53 < mN μ := ⟨(h.2.2.2.1 53 (by decide)).1, Nat.lt_of_lt_of_le (by decide) h.2.1⟩
theorem s_o54 (h : Sh μ) : mK μ 54 = 4 ∧ 54 < mN μ := ⟨(h.2.2.2.1 54 (by decide)).1, Nat.lt_of_lt_of_le (by decide) h.2.1⟩
theorem s_o55 (h : Sh μ) : mK μ 55 = 4 ∧ 55 < mN μ := ⟨(h.2.2.2.1 55 (by decide)).1, Nat.lt_of_lt_of_le (by decide) h.2.1⟩
theorem s_o56 (h : Sh μ) : mK μ 56 = 4 ∧ 56 < mN μ := ⟨(h.2.2.2.1 56 (by decide)).1, Nat.lt_of_lt_of_le (by decide) h.2.1⟩
theorem s_o57 (h : Sh μ) : mK μ 57 = 6 ∧ 57 < mN μ := ⟨(h.2.2.2.1 57 (by decide)).1, Nat.lt_of_lt_of_le (by decide) h.2.1⟩
theorem s_o58 (h : Sh μ) : mK μ 58 = 20 ∧ 58 < mN μ := ⟨(h.2.2.2.1 58 (by decide)).1, Nat.lt_of_lt_of_le (by decide) h.2.1⟩
theorem s_l58 (h : Sh μ) : mL μ 58 = 40 := (h.2.2.2.1 58 (by decide)).2
theorem s_a58 (h : Sh μ) : 58 < p_E ∧ mK μ 58 = 20 ∧ 58 < mN μ := ⟨sh_e (by decide), s_o58 h⟩
theorem s_o59 (h : Sh μ) : mK μ 59 = 6 ∧ 59 < mN μ := ⟨(h.2.2.2.1 59 (by decide)).1, Nat.lt_of_lt_of_le (by decide) h.2.1⟩
theorem s_o60 (h : Sh μ) : mK μ 60 = 20 ∧ 60 < mN μ := ⟨(h.2.2.2.1 60 (by decide)).1, Nat.lt_of_lt_of_le (by decide) h.2.1⟩
theorem s_l60 (h : Sh μ) : mL μ 60 = 40 := (h.2.2.2.1 60 (by decide)).2
theorem s_a60 (h : Sh μ) : 60 < p_E ∧ mK μ 60 = 20 ∧ 60 < mN μ := ⟨sh_e (by decide), s_o60 h⟩
theorem s_o61 (h : Sh μ) : mK μ 61 = 6 ∧ 61 < mN μ := ⟨(h.2.2.2.1 61 (by decide)).1, Nat.lt_of_lt_of_le (by decide) h.2.1⟩
theorem s_o62 (h : Sh μ) : mK μ 62 = 20 ∧ 62 < mN μ := ⟨(h.2.2.2.1 62 (by decide)).1, Nat.lt_of_lt_of_le (by decide) h.2.1⟩
theorem s_l62 (h : Sh μ) : mL μ 62 = 40 := (h.2.2.2.1 62 (by decide)).2
theorem s_a62 (h : Sh μ) : 62 < p_E ∧ mK μ 62 = 20 ∧ 62 < mN μ := ⟨sh_e (by decide), s_o62 h⟩
theorem s_o63 (h : Sh μ) : mK μ 63 = 6 ∧ 63 < mN μ := ⟨(h.2.2.2.1 63 (by decide)).1, Nat.lt_of_lt_of_le (by decide) h.2.1⟩
theorem s_o64 (h : Sh μ) : mK μ 64 = 20 ∧ 64 < mN μ := ⟨(h.2.2.2.1 64 (by decide)).1, Nat.lt_of_lt_of_le (by decide) h.2.1⟩
theorem s_l64 (h : Sh μ) : mL μ 64 = 40 := (h.2.2.2.1 64 (by decide)).2
theorem s_a64 (h : Sh μ) : 64 < p_E ∧ mK μ 64 = 20 ∧ 64 < mN μ := ⟨sh_e (by decide), s_o64 h⟩
theorem s_r0_0 (h : Sh μ) : mR μ 0 0 = some 1 := h.2.2.2.2.1 (0, 0, 1) (by decide)
theorem s_r0_1 (h : Sh μ) : mR μ 0 1 = some 3 := h.2.2.2.2.1 (0, 1, 3) (by decide)
theorem s_r0_7 (h : Sh μ) : mR μ 0 7 = some 14 := h.2.2.2.2.1 (0, 7, 14) (by decide)
theorem s_r0_8 (h : Sh μ) : mR μ 0 8 = some 15 := h.2.2.2.2.1 (0, 8, 15) (by decide)
theorem s_r0_9 (h : Sh μ) : mR μ 0 9 = some 26 := h.2.2.2.2.1 (0, 9, 26) (by decide)
theorem s_r0_10 (h : Sh μ) : mR μ 0 10 = some 30 := h.2.2.2.2.1 (0, 10, 30) (by decide)
theorem s_r0_11 (h : Sh μ) : mR μ 0 11 = some 34 := h.2.2.2.2.1 (0, 11, 34) (by decide)
theorem s_r0_12 (h : Sh μ) : mR μ 0 12 = some 36 := h.2.2.2.2.1 (0, 12, 36) (by decide)
theorem s_r0_14 (h : Sh μ) : mR μ 0 14 = some 37 := h.2.2.2.2.1 (0, 14, 37) (by decide)
theorem s_r0_16 (h : Sh μ) : mR μ 0 16 = some 38 := h.2.2.2.2.1 (0, 16, 38) (by decide)
theorem s_r0_19 (h : Sh μ) : mR μ 0 19 = some 46 := h.2.2.2.2.1 (0, 19, 46) (by decide)
theorem s_r1_0 (h : Sh μ) : mR μ 1 0 = some 2 := h.2.2.2.2.1 (1, 0, 2) (by decide)
theorem s_r3_0 (h : Sh μ) : mR μ 3 0 = some 51 := h.2.2.2.2.1 (3, 0, 51) (by decide)
theorem s_r3_1 (h : Sh μ) : mR μ 3 1 = some 52 := h.2.2.2.2.1 (3, 1, 52) (by decide)
theorem s_r3_2 (h : Sh μ) : mR μ 3 2 = some 53 := h.2.2.2.2.1 (3, 2, 53) (by decide)
theorem s_r3_3 (h : Sh μ) : mR μ 3 3 = some 54 := h.2.2.2.2.1 (3, 3, 54) (by decide)
theorem s_r3_4 (h : Sh μ) : mR μ 3 4 = some 55 := h.2.2.2.2.1 (3, 4, 55) (by decide)
theorem s_r3_5 (h : Sh μ) : mR μ 3 5 = some 56 := h.2.2.2.2.1 (3, 5, 56) (by decide)
theorem s_r4_0 (h : Sh μ) : mR μ 4 0 = some 5 := h.2.2.2.2.1 (4, 0, 5) (by decide)
theorem s_r4_1 (h : Sh μ) : mR μ 4 1 = some 6 := h.2.2.2.2.1 (4, 1, 6) (by decide)
theorem s_r7_0 (h : Sh μ) : mR μ 7 0 = some 8 := h.2.2.2.2.1 (7, 0, 8) (by decide)
theorem s_r7_1 (h : Sh μ) : mR μ 7 1 = some 9 := h.2.2.2.2.1 (7, 1, 9) (by decide)
theorem s_r10_0 (h : Sh μ) : mR μ 10 0 = some 11 := h.2.2.2.2.1 (10, 0, 11) (by decide)
theorem s_r12_0 (h : Sh μ) : mR μ 12 0 = some 13 := h.2.2.2.2.1 (12, 0, 13) (by decide)
theorem s_r15_0 (h : Sh μ) : mR μ 15 0 = some 16 := h.2.2.2.2.1 (15, 0, 16) (by decide)
theorem s_r15_1 (h : Sh μ) : mR μ 15 1 = some 17 := h.2.2.2.2.1 (15, 1, 17) (by decide)
theorem s_r15_2 (h : Sh μ) : mR μ 15 2 = some 18 := h.2.2.2.2.1 (15, 2, 18) (by decide)
theorem s_r16_0 (h : Sh μ) : mR μ 16 0 = some 19 := h.2.2.2.2.1 (16, 0, 19) (by decide)
theorem s_r16_1 (h : Sh μ) : mR μ 16 1 = some 20 := h.2.2.2.2.1 (16, 1, 20) (by decide)
theorem s_r16_2 (h : Sh μ) : mR μ 16 2 = some 21 := h.2.2.2.2.1 (16, 2, 21) (by decide)
theorem s_r16_3 (h : Sh μ) : mR μ 16 3 = some 22 := h.2.2.2.2.1 (16, 3, 22) (by decide)
theorem s_r16_4 (h : Sh μ) : mR μ 16 4 = some 23 := h.2.2.2.2.1 (16, 4, 23) (by decide)
theorem s_r16_5 (h : Sh μ) : mR μ 16 5 = some 24 := h.2.2.2.2.1 (16, 5, 24) (by decide)
theorem s_r16_6 (h : Sh μ) : mR μ 16 6 = some 25 := h.2.2.2.2.1 (16, 6, 25) (by decide)
theorem s_r26_0 (h : Sh μ) : mR μ 26 0 = some 27 := h.2.2.2.2.1 (26, 0, 27) (by decide)
theorem s_r26_1 (h : Sh μ) : mR μ 26 1 = some 28 := h.2.2.2.2.1 (26, 1, 28) (by decide)
theorem s_r26_3 (h : Sh μ) : mR μ 26 3 = some 29 := h.2.2.2.2.1 (26, 3, 29) (by decide)
theorem s_r30_0 (h : Sh μ) : mR μ 30 0 = some 31 := h.2.2.2.2.1 (30, 0, 31) (by decide)
theorem s_r30_1 (h : Sh μ) : mR μ 30 1 = some 32 := h.2.2.2.2.1 (30, 1, 32) (by decide)
theorem s_r30_2 (h : Sh μ) : mR μ 30 2 = some 33 := h.2.2.2.2.1 (30, 2, 33) (by decide)
theorem s_r34_0 (h : Sh μ) : mR μ 34 0 = some 35 := h.2.2.2.2.1 (34, 0, 35) (by decide)
theorem s_r36_0 (h : Sh μ) : mR μ 36 0 = some 57 := h.2.2.2.2.1 (36, 0, 57) (by decide)
theorem s_r36_1 (h : Sh μ) : mR μ 36 1 = some 59 := h.2.2.2.2.1 (36, 1, 59) (by decide)
theorem s_r36_2 (h : Sh μ) : mR μ 36 2 = some 61 := h.2.2.2.2.1 (36, 2, 61) (by decide)
theorem s_r36_3 (h : Sh μ) : mR μ 36 3 = some 63 := h.2.2.2.2.1 (36, 3, 63) (by decide)
theorem s_r38_0 (h : Sh μ) : mR μ 38 0 = some 39 := h.2.2.2.2.1 (38, 0, 39) (by decide)
theorem s_r38_1 (h : Sh μ) : mR μ 38 1 = some 40 := h.2.2.2.2.1 (38, 1, 40) (by decide)
theorem s_r38_2 (h : Sh μ) : mR μ 38 2 = some 41 := h.2.2.2.2.1 (38, 2, 41) (by decide)
theorem s_r38_5 (h : Sh μ) : mR μ 38 5 = some 42 := h.2.2.2.2.1 (38, 5, 42) (by decide)
theorem s_r38_6 (h : Sh μ) : mR μ 38 6 = some 43 := h.2.2.2.2.1 (38, 6, 43) (by decide)
theorem s_r38_7 (h : Sh μ) : mR μ 38 7 = some 44 := h.2.2.2.2.1 (38, 7, 44) (by decide)
theorem s_r38_8 (h : Sh μ) : mR μ 38 8 = some 45 := h.2.2.2.2.1 (38, 8, 45) (by decide)
theorem s_r46_0 (h : Sh μ) : mR μ 46 0 = some 47 := h.2.2.2.2.1 (46, 0, 47) (by decide)
theorem s_r46_3 (h : Sh μ) : mR μ 46 3 = some 48 := h.2.2.2.2.1 (46, 3, 48) (by decide)
theorem s_r48_0 (h : Sh μ) : mR μ 48 0 = some 49 := h.2.2.2.2.1 (48, 0, 49) (by decide)
theorem s_r48_1 (h : Sh μ) : mR μ 48 1 = some 50 := h.2.2.2.2.1 (48, 1, 50) (by decide)
theorem s_r57_1 (h : Sh μ) : mR μ 57 1 = some 58 := h.2.2.2.2.1 (57, 1, 58) (by decide)
theorem s_r59_1 (h : Sh μ) : mR μ 59 1 = some 60 := h.2.2.2.2.1 (59, 1, 60) (by decide)
theorem s_r61_1 (h : Sh μ) : mR μ 61 1 = some 62 := h.2.2.2.2.1 (61, 1, 62) (by decide)
theorem s_r63_1 (h : Sh μ) : mR μ 63 1 = some 64 := h.2.2.2.2.1 (63, 1, 64) (by decide)
theorem s_o112 (h : Sh μ) : mK μ 112 = 22 ∧ ¬ (0 : Int32) < 0 ∧ (0 : Int32).toNatClampNeg < mL μ 112 ∧ 112 < mN μ := ⟨h.2.2.2.2.2.1, by decide, by rw [h.2.2.2.2.2.2]; decide, Nat.lt_of_lt_of_le (by decide) h.2.1⟩
end SH
