/-! the start: both objects and the long array are made -/
def m00 : p_M := (fun _ _ => 0, fun _ _ => none, fun _ _ => 0, fun _ => 0, fun _ => 0, 0, 0, 0)
/-- the outer arrays; the script is not asked -/
def X1 : p_X := fun k => if k = 1 then (18, at0) else if k = 2 then (4, fun b => nI (us b)) else (0, fun _ => 0)
def oA : Option (Int32 × p_M) := F_X12_init X1 0 (sN m00 13 0 (q_N 13))
theorem t_oA : oA.isSome = true := by decide +kernel
def mA : p_M := match oA with
  | some r => r.2
  | none => m00
theorem e_oA : ∃ v, oA = some (v, mA) := by
  have h := t_oA
  unfold mA
  cases e : oA with
  | none => rw [e] at h; cases h
  | some r => exact ⟨r.1, rfl⟩
def oB : Option (Int32 × p_M) := F_X13_init 65 (sN mA 14 0 (q_N 14))
theorem t_oB : oB.isSome = true := by decide +kernel
def mB : p_M := match oB with
  | some r => r.2
  | none => m00
theorem e_oB : ∃ v, oB = some (v, mB) := by
  have h := t_oB
  unfold mB
  cases e : oB with
  | none => rw [e] at h; cases h
  | some r => exact ⟨r.1, rfl⟩
def mZ : p_M := sN mB 22 1 1
theorem z_ct : mN mZ = 113 ∧ mC mZ ≤ 1000 ∧ mS mZ ≤ 100000 ∧ mN mA = 65 := by decide +kernel
theorem z_Sh1 : mK mZ tM = 14 ∧ ∀ k, k < 80 → p_isR 14 k = true → mR mZ tM k = some (aM k) ∧ mK mZ (aM k) = kdM k ∧ mL mZ (aM k) = lnM k ∧ aM k < 113 := by decide +kernel
theorem z_Sh2 : (∀ a, a < 65 → mK mZ a = kCl a ∧ mL mZ a = lCl a) ∧ mK mZ 112 = 22 ∧ mL mZ 112 = 1 := by decide +kernel
theorem z_Sh3 : ∀ e, e ∈ rCl → mR mZ e.1 e.2.1 = some e.2.2 := by decide +kernel
