/-! a new Lot -/
def nwA (μ : p_M) (v1 v2 v3 v4 : Int32) : p_M := sI (sI (sI (sI (sI (sI (sI (sI (sR (sN (sN μ 5 0 17) 4 0 6) (mN μ) 8 (some (mN μ + 1))) (mN μ) 9 0) (mN μ) 10 (-1)) (mN μ) 12 (-1)) (mN μ) 13 (-1)) (mN μ) 0 v1) (mN μ) 1 v2) (mN μ) 2 v3) (mN μ) 3 v4
def nwB (μ : p_M) (v1 v2 v3 v4 : Int32) (nb : Nat) : p_M := sR (sR (sN (sR (sN (sN (nwA μ v1 v2 v3 v4) 9 0 3) 20 nb nb) (mN μ + 2) 0 (some (mN μ + 3))) 20 nb nb) (mN μ + 2) 1 (some (mN μ + 4))) (mN μ) 7 (some (mN μ + 2))
def nwC (μ : p_M) (v1 v2 v3 v4 : Int32) (nb P : Nat) : p_M := sR (sN (sR (sN (nwB μ v1 v2 v3 v4 nb) 20 P P) (mN μ) 15 (some (mN μ + 5))) 20 P P) (mN μ) 16 (some (mN μ + 6))
def nwL (μ : p_M) (v1 v2 v3 v4 : Int32) (nb P : Nat) : p_M := sA (nwC μ v1 v2 v3 v4 nb P) (mN μ + 6) (fun j => if j < P then -1 else mI (nwC μ v1 v2 v3 v4 nb P) (mN μ + 6) j)
theorem nw_max {P : Nat} (h : P < 2 ^ 31) : (if (0 : Int32) < nI P then nI P else 0) = nI P := by
  by_cases c : P = 0
  · subst c; rfl
  · rw [if_pos (i_nle.mp (nI_nle (by omega) h))]
section NW
variable {μ : p_M} {v1 v2 v3 v4 : Int32} {nb P l : Nat}
theorem nwA_N (hl : mN μ = l) : mN (nwA μ v1 v2 v3 v4) = l + 2 := by
  unfold nwA
  simp only [mN_sI, mN_sR, mN_sN, hl]
theorem nwB_N (hl : mN μ = l) : mN (nwB μ v1 v2 v3 v4 nb) = l + 5 := by
  unfold nwB
  simp only [mN_sR, mN_sN, nwA_N hl]
theorem nwC_N (hl : mN μ = l) : mN (nwC μ v1 v2 v3 v4 nb P) = l + 7 := by
  unfold nwC
  simp only [mN_sR, mN_sN, nwB_N hl]
theorem nwL_N (hl : mN μ = l) : mN (nwL μ v1 v2 v3 v4 nb P) = l + 7 := by
  unfold nwL
  rw [mN_sA, nwC_N hl]
theorem nwA_K (hl : mN μ = l) (a : Nat) : mK (nwA μ v1 v2 v3 v4) a = if a = l + 1 then 4 else if a = l then 5 else mK μ a := by
  unfold nwA
  simp only [mK_sI, mK_sR, mK_sN, mN_sN, hl]
theorem nwB_K (hl : mN μ = l) (a : Nat) : mK (nwB μ v1 v2 v3 v4 nb) a = if a = l + 4 then 20 else if a = l + 3 then 20 else if a = l + 2 then 9 else mK (nwA μ v1 v2 v3 v4) a := by
  unfold nwB
  simp only [mK_sR, mK_sN, mN_sR, mN_sN, nwA_N hl]
theorem nwC_K (hl : mN μ = l) (a : Nat) : mK (nwC μ v1 v2 v3 v4 nb P) a = if a = l + 6 then 20 else if a = l + 5 then 20 else mK (nwB μ v1 v2 v3 v4 nb) a := by
  unfold nwC
  simp only [mK_sR, mK_sN, mN_sR, mN_sN, nwB_N hl]
theorem nwL_K (hl : mN μ = l) (a : Nat) : mK (nwL μ v1 v2 v3 v4 nb P) a = if a = l + 6 then 20 else if a = l + 5 then 20 else if a = l + 4 then 20 else if a = l + 3 then 20 else if a = l + 2 then 9 else if a = l + 1 then 4 else if a = l then 5 else mK μ a := by
  unfold nwL
  rw [mK_sA, nwC_K hl, nwB_K hl, nwA_K hl]
theorem nwL_L (hl : mN μ = l) (a : Nat) : mL (nwL μ v1 v2 v3 v4 nb P) a = if a = l + 6 then P else if a = l + 5 then P else if a = l + 4 then nb else if a = l + 3 then nb else if a = l + 2 then 0 else if a = l + 1 then 0 else if a = l then 0 else mL μ a := by
  unfold nwL nwC nwB
  simp only [mL_sA, mL_sR, mL_sN, mN_sR, mN_sN, nwA_N hl, show mN (sR (sR (sN (sR (sN (sN (nwA μ v1 v2 v3 v4) 9 0 3) 20 nb nb) (mN μ + 2) 0 (some (mN μ + 3))) 20 nb nb) (mN μ + 2) 1 (some (mN μ + 4))) (mN μ) 7 (some (mN μ + 2))) = l + 5 from nwB_N hl]
  unfold nwA
  simp only [mL_sI, mL_sR, mL_sN, mN_sN, hl]
theorem nwL_CS : mC (nwL μ v1 v2 v3 v4 nb P) = mC μ + 7 ∧ mS (nwL μ v1 v2 v3 v4 nb P) = mS μ + 17 + 6 + 3 + nb + nb + P + P := ⟨rfl, rfl⟩
theorem nwA_R (hl : mN μ = l) (a : Nat) : mR (nwA μ v1 v2 v3 v4) a = if a = l then va_up (fun _ => none) 8 (some (l + 1)) else if a = l + 1 then (fun _ => none) else mR μ a := by
  unfold nwA
  have n1 : ¬ l = l + 1 := by omega
  simp only [mR_sI, mR_sR, mR_sN, mN_sN, hl, n1, ↓reduceIte]
  by_cases c : a = l
  · simp only [c, ↓reduceIte]
  · simp only [c, ↓reduceIte]
theorem nwL_R (hl : mN μ = l) (a : Nat) (ha : a < l) : mR (nwL μ v1 v2 v3 v4 nb P) a = mR μ a := by
  have e0 : ¬ a = l := by omega
  have e1 : ¬ a = l + 1 := by omega
  have e2 : ¬ a = l + 2 := by omega
  have e3 : ¬ a = l + 3 := by omega
  have e4 : ¬ a = l + 4 := by omega
  have e5 : ¬ a = l + 5 := by omega
  have e6 : ¬ a = l + 6 := by omega
  have q := nwB_N (μ := μ) (v1 := v1) (v2 := v2) (v3 := v3) (v4 := v4) (nb := nb) hl
  unfold nwL nwC
  simp only [mR_sA, mR_sR, mR_sN, mN_sR, mN_sN, hl, q, e0, e5, e6, ↓reduceIte]
  unfold nwB
  simp only [mR_sR, mR_sN, mN_sR, mN_sN, hl, nwA_N hl, e0, e2, e3, e4, ↓reduceIte, nwA_R hl, e1]
theorem nwL_R0 (hl : mN μ = l) : mR (nwL μ v1 v2 v3 v4 nb P) l 7 = some (l + 2) ∧ mR (nwL μ v1 v2 v3 v4 nb P) l 8 = some (l + 1) ∧ mR (nwL μ v1 v2 v3 v4 nb P) l 15 = some (l + 5) ∧ mR (nwL μ v1 v2 v3 v4 nb P) l 16 = some (l + 6) := by
  have e1 : ¬ l = l + 1 := by omega
  have e2 : ¬ l = l + 2 := by omega
  have e3 : ¬ l = l + 3 := by omega
  have e4 : ¬ l = l + 4 := by omega
  have e5 : ¬ l = l + 5 := by omega
  have e6 : ¬ l = l + 6 := by omega
  have q := nwB_N (μ := μ) (v1 := v1) (v2 := v2) (v3 := v3) (v4 := v4) (nb := nb) hl
  have hr : ∀ k, mR (nwL μ v1 v2 v3 v4 nb P) l k = if k = 16 then some (l + 6) else if k = 15 then some (l + 5) else if k = 7 then some (l + 2) else if k = 8 then some (l + 1) else none := fun k => by
    unfold nwL nwC
    simp only [mR_sA, mR_sR, mR_sN, mN_sR, mN_sN, hl, q, e5, e6, ↓reduceIte, z_up]
    unfold nwB
    simp only [mR_sR, mR_sN, mN_sR, mN_sN, hl, nwA_N hl, e2, e3, e4, ↓reduceIte, nwA_R hl, z_up]
  exact ⟨hr 7, hr 8, hr 15, hr 16⟩
theorem nwL_R2 (hl : mN μ = l) : mR (nwL μ v1 v2 v3 v4 nb P) (l + 2) 0 = some (l + 3) ∧ mR (nwL μ v1 v2 v3 v4 nb P) (l + 2) 1 = some (l + 4) := by
  have e0 : ¬ l + 2 = l := by omega
  have e3 : ¬ l + 2 = l + 3 := by omega
  have e4 : ¬ l + 2 = l + 4 := by omega
  have e5 : ¬ l + 2 = l + 5 := by omega
  have e6 : ¬ l + 2 = l + 6 := by omega
  have q := nwB_N (μ := μ) (v1 := v1) (v2 := v2) (v3 := v3) (v4 := v4) (nb := nb) hl
  have hr : ∀ k, mR (nwL μ v1 v2 v3 v4 nb P) (l + 2) k = if k = 1 then some (l + 4) else if k = 0 then some (l + 3) else none := fun k => by
    unfold nwL nwC
    simp only [mR_sA, mR_sR, mR_sN, mN_sR, mN_sN, hl, q, e0, e5, e6, ↓reduceIte, z_up]
    unfold nwB
    simp only [mR_sR, mR_sN, mN_sR, mN_sN, hl, nwA_N hl, e0, e3, e4, ↓reduceIte, z_up]
  exact ⟨hr 0, hr 1⟩
theorem nwA_I (hl : mN μ = l) (a : Nat) : mI (nwA μ v1 v2 v3 v4) a = if a = l then (fun k => if k = 3 then v4 else if k = 2 then v3 else if k = 1 then v2 else if k = 0 then v1 else if k = 13 then -1 else if k = 12 then -1 else if k = 10 then -1 else if k = 9 then 0 else 0) else if a = l + 1 then (fun _ => 0) else mI μ a := by
  unfold nwA
  have n1 : ¬ l = l + 1 := by omega
  simp only [mI_sI, mI_sR, mI_sN, mN_sN, hl, n1, ↓reduceIte]
  by_cases c : a = l
  · simp only [c, ↓reduceIte]
    rfl
  · simp only [c, ↓reduceIte]
theorem nwC_I (hl : mN μ = l) (a : Nat) : mI (nwC μ v1 v2 v3 v4 nb P) a = if a = l + 6 then (fun _ => 0) else if a = l + 5 then (fun _ => 0) else if a = l + 4 then (fun _ => 0) else if a = l + 3 then (fun _ => 0) else if a = l + 2 then (fun _ => 0) else mI (nwA μ v1 v2 v3 v4) a := by
  have q := nwB_N (μ := μ) (v1 := v1) (v2 := v2) (v3 := v3) (v4 := v4) (nb := nb) hl
  unfold nwC
  simp only [mI_sR, mI_sN, mN_sR, mN_sN, q]
  unfold nwB
  simp only [mI_sR, mI_sN, mN_sR, mN_sN, nwA_N hl]
theorem nwL_I (hl : mN μ = l) (a : Nat) : mI (nwL μ v1 v2 v3 v4 nb P) a = if a = l + 6 then (fun j => if j < P then -1 else 0) else mI (nwC μ v1 v2 v3 v4 nb P) a := by
  unfold nwL
  rw [mI_sA, hl, nwC_I hl]
  simp only [↓reduceIte]
end NW
theorem nwL_old {μ : p_M} {v1 v2 v3 v4 : Int32} {nb P l : Nat} (hl : mN μ = l) {a : Nat} (ha : a < l) : mI (nwL μ v1 v2 v3 v4 nb P) a = mI μ a ∧ mR (nwL μ v1 v2 v3 v4 nb P) a = mR μ a ∧ mK (nwL μ v1 v2 v3 v4 nb P) a = mK μ a ∧ mL (nwL μ v1 v2 v3 v4 nb P) a = mL μ a := by
  refine ⟨?_, nwL_R hl a ha, ?_, ?_⟩
  · rw [nwL_I hl, nwC_I hl, nwA_I hl, if_neg (by omega), if_neg (by omega), if_neg (by omega), if_neg (by omega), if_neg (by omega), if_neg (by omega), if_neg (by omega), if_neg (by omega)]
  · rw [nwL_K hl, if_neg (by omega), if_neg (by omega), if_neg (by omega), if_neg (by omega), if_neg (by omega), if_neg (by omega), if_neg (by omega)]
  · rw [nwL_L hl, if_neg (by omega), if_neg (by omega), if_neg (by omega), if_neg (by omega), if_neg (by omega), if_neg (by omega), if_neg (by omega)]
theorem nwL_S {μ : p_M} {v1 v2 v3 v4 : Int32} {nb P l : Nat} (hl : mN μ = l) (h113 : 113 ≤ l) (hE : l + 8 < p_E) : LotS (nwL μ v1 v2 v3 v4 nb P) l P nb := by
  have hN := nwL_N (μ := μ) (v1 := v1) (v2 := v2) (v3 := v3) (v4 := v4) (nb := nb) (P := P) hl
  have hK := nwL_K (μ := μ) (v1 := v1) (v2 := v2) (v3 := v3) (v4 := v4) (nb := nb) (P := P) hl
  have hL := nwL_L (μ := μ) (v1 := v1) (v2 := v2) (v3 := v3) (v4 := v4) (nb := nb) (P := P) hl
  obtain ⟨r1, r2, r3, r4⟩ := nwL_R0 (μ := μ) (v1 := v1) (v2 := v2) (v3 := v3) (v4 := v4) (nb := nb) (P := P) hl
  obtain ⟨r5, r6⟩ := nwL_R2 (μ := μ) (v1 := v1) (v2 := v2) (v3 := v3) (v4 := v4) (nb := nb) (P := P) hl
  refine ⟨h113, ⟨?_, by omega⟩, r1, r2, r3, r4, ⟨?_, by omega⟩, ⟨⟨?_, by omega⟩, r5, r6, ⟨by omega, ?_, by omega⟩, ?_, ⟨by omega, ?_, by omega⟩, ?_⟩, ⟨by omega, ?_, by omega⟩, ?_, ⟨by omega, ?_, by omega⟩, ?_⟩
  · rw [hK, if_neg (by omega), if_neg (by omega), if_neg (by omega), if_neg (by omega), if_neg (by omega), if_neg (by omega), if_pos rfl]
  · rw [hK, if_neg (by omega), if_neg (by omega), if_neg (by omega), if_neg (by omega), if_neg (by omega), if_pos rfl]
  · rw [hK, if_neg (by omega), if_neg (by omega), if_neg (by omega), if_neg (by omega), if_pos rfl]
  · rw [hK, if_neg (by omega), if_neg (by omega), if_neg (by omega), if_pos rfl]
  · rw [hL, if_neg (by omega), if_neg (by omega), if_neg (by omega), if_pos rfl]
  · rw [hK, if_neg (by omega), if_neg (by omega), if_pos rfl]
  · rw [hL, if_neg (by omega), if_neg (by omega), if_pos rfl]
  · rw [hK, if_neg (by omega), if_pos rfl]
  · rw [hL, if_neg (by omega), if_pos rfl]
  · rw [hK, if_pos rfl]
  · rw [hL, if_pos rfl]
theorem c_newLot {μ : p_M} {v1 v3 v4 : Int32} {nb P l : Nat} (hl : mN μ = l) (hE : l + 8 < p_E) (hP : P ≤ 60) (hn : nb ≤ 20) : F_X4_init l v1 (nI P) v3 v4 (nI nb) (sN μ 5 0 (q_N 5)) = some (0, nwL μ v1 (nI P) v3 v4 nb P) := by
  have hmP := nw_max (show P < 2 ^ 31 by omega)
  have hmn := nw_max (show nb < 2 ^ 31 by omega)
  have kP := nI_clamp (show P < 2 ^ 31 by omega)
  have kn := nI_clamp (show nb < 2 ^ 31 by omega)
  have cP : ¬ (nI P < 0 ∨ 100000 < P) := fun h => by rcases h with h | h; exact nI_pos (by omega) h; omega
  have cn : ¬ (nI nb < 0 ∨ 100000 < nb) := fun h => by rcases h with h | h; exact nI_pos (by omega) h; omega
  have e1 : ¬ l = l + 1 := by omega
  have e2 : ¬ l = l + 2 := by omega
  have e3 : ¬ l = l + 3 := by omega
  have e4 : ¬ l = l + 4 := by omega
  have e5 : ¬ l = l + 5 := by omega
  have e6 : ¬ l = l + 6 := by omega
  have u3 : ¬ l + 2 = l + 3 := by omega
  have u4 : ¬ l + 2 = l + 4 := by omega
  have u1 : ¬ l + 1 = l := by omega
  have t1 : l < l + 1 := by omega
  have t2 : l < l + 2 := by omega
  have t3 : l + 1 < l + 2 := by omega
  have t4 : l + 2 < l + 3 := by omega
  have t5 : l + 2 < l + 4 := by omega
  have t6 : l + 2 < l + 5 := by omega
  have t7 : l < l + 5 := by omega
  have t8 : l < l + 6 := by omega
  have t9 : l < l + 7 := by omega
  have hA : (sI (sI (sI (sI (sI (sI (sI (sI (sR (sN (sN μ 5 0 17) 4 0 6) l 8 (some (l + 1))) l 9 0) l 10 (-1)) l 12 (-1)) l 13 (-1)) l 0 v1) l 1 (nI P)) l 2 v3) l 3 v4) = nwA μ v1 (nI P) v3 v4 := by unfold nwA; rw [hl]
  have a_N := nwA_N (μ := μ) (v1 := v1) (v2 := nI P) (v3 := v3) (v4 := v4) hl
  have a_K := nwA_K (μ := μ) (v1 := v1) (v2 := nI P) (v3 := v3) (v4 := v4) hl
  have a_I := nwA_I (μ := μ) (v1 := v1) (v2 := nI P) (v3 := v3) (v4 := v4) hl
  have a_1 : mI (nwA μ v1 (nI P) v3 v4) l 1 = nI P := by
    rw [a_I, if_pos rfl]
    rfl
  have g8 : F_X8_init (l + 2) (nI nb) (sN (nwA μ v1 (nI P) v3 v4) 9 0 3) = some (0, sR (sN (sR (sN (sN (nwA μ v1 (nI P) v3 v4) 9 0 3) 20 nb nb) (l + 2) 0 (some (l + 3))) 20 nb nb) (l + 2) 1 (some (l + 4))) := by
    have q : 9 < 15 := by decide
    simp only [F_X8_init, p_ok, p_let_eq, mN_sN, mN_sR, mK_sN, mK_sR, a_N, a_K, hmn, kn, cn, u3, u4, t4, t5, t6, q, Nat.add_assoc, Nat.reduceAdd, and_self, not_false_eq_true, ↓reduceIte]
  have hB : sR (sR (sN (sR (sN (sN (nwA μ v1 (nI P) v3 v4) 9 0 3) 20 nb nb) (l + 2) 0 (some (l + 3))) 20 nb nb) (l + 2) 1 (some (l + 4))) l 7 (some (l + 2)) = nwB μ v1 (nI P) v3 v4 nb := by unfold nwB; rw [hl]
  have b_N := nwB_N (μ := μ) (v1 := v1) (v2 := nI P) (v3 := v3) (v4 := v4) (nb := nb) hl
  have b_K := nwB_K (μ := μ) (v1 := v1) (v2 := nI P) (v3 := v3) (v4 := v4) (nb := nb) hl
  have b_1 : mI (nwB μ v1 (nI P) v3 v4 nb) l 1 = nI P := by
    unfold nwB
    simp only [mI_sR, mI_sN, mN_sR, mN_sN, a_N, e2, e3, e4, ↓reduceIte, a_I, Nat.reduceEqDiff]
  have hC : sR (sN (sR (sN (nwB μ v1 (nI P) v3 v4 nb) 20 P P) l 15 (some (l + 5))) 20 P P) l 16 (some (l + 6)) = nwC μ v1 (nI P) v3 v4 nb P := by unfold nwC; rw [hl]
  have c_N := nwC_N (μ := μ) (v1 := v1) (v2 := nI P) (v3 := v3) (v4 := v4) (nb := nb) (P := P) hl
  have c_K := nwC_K (μ := μ) (v1 := v1) (v2 := nI P) (v3 := v3) (v4 := v4) (nb := nb) (P := P) hl
  have c_L : mL (nwC μ v1 (nI P) v3 v4 nb P) (l + 6) = P := by
    unfold nwC
    simp only [mL_sR, mL_sN, mN_sR, mN_sN, b_N, ↓reduceIte]
  have c_R : mR (nwC μ v1 (nI P) v3 v4 nb P) l 16 = some (l + 6) := by
    unfold nwC
    simp only [mR_sR, hl, ↓reduceIte, z_up]
  have hf := w_fill (μ := nwC μ v1 (nI P) v3 v4 nb P) (a := l + 6) (N := P) (v := -1) ⟨by omega, by rw [c_K, if_pos rfl], by rw [c_N]; omega⟩ c_L (by omega)
  have hLl : nwL μ v1 (nI P) v3 v4 nb P = sA (nwC μ v1 (nI P) v3 v4 nb P) (l + 6) (fun j => if j < P then -1 else mI (nwC μ v1 (nI P) v3 v4 nb P) (l + 6) j) := by unfold nwL; rw [hl]
  rw [hLl]
  have q5 : 5 < 15 := by decide
  have q4 : 4 < 15 := by decide
  have qN5 : q_N 5 = 17 := rfl
  have qN4 : q_N 4 = 6 := rfl
  have qN9 : q_N 9 = 3 := rfl
  unfold F_X4_init
  simp only [F_X3_init, p_ok, p_let_eq, bd_some, qN5, qN4, qN9, mN_sN, mN_sR, mN_sI, mK_sN, mK_sR, mK_sI, hl, e1, u1, t1, t2, t3, q5, q4, hmP, and_self, true_and, ↓reduceIte]
  rw [hA]
  simp only [a_N, a_K, e1, e2, e3, e4, t2, t4, t7, t8, t9, g8, bd_some, hB, a_1, mN_sN, mN_sR, mK_sN, mK_sR, b_N, b_K, b_1, mI_sR, mI_sN, Nat.add_assoc, Nat.reduceAdd, e5, e6, kP, cP, and_self, true_and, not_false_eq_true, ↓reduceIte]
  rw [hC]
  simp only [c_R, bd_some, hf]
