/-! everything that both sides hold together, and every call keeps it -/
def Core (μ : p_M) : Prop := Sh μ ∧ RText μ ∧ RCloth μ ∧ RRec μ ∧ RKinds μ ∧ RWater μ ∧ RGarm μ ∧ RHouse μ ∧ RPan μ ∧ RLots μ ∧ RMisc μ
/-- the next memory -/
def Nx (μ μ' : p_M) : Prop := Core μ' ∧ Cn μ μ' ∧ mN μ' ≤ mN μ + 8
def Qi (k b : Int32) (μ μ' : p_M) : Prop := mI μ' 65 0 = k ∧ (k = 0 → mJ μ' 112 0 = b.toInt64) ∧ Nx μ μ'
def Qz (k b : Int32) (μ μ' : p_M) : Prop := mI μ' 65 0 = k ∧ (k = 0 → mJ μ' 112 0 = if b = 0 then 0 else 1) ∧ Nx μ μ'
def Qv (k : Int32) (μ μ' : p_M) : Prop := mI μ' 65 0 = k ∧ Nx μ μ'
def Qd (a b : Int32) (μ μ' : p_M) : Prop := a = b ∧ Nx μ μ'
theorem wp_mono {α : Type} {x : Option (α × p_M)} {P Q : α → p_M → Prop} (h : wp x P) (f : ∀ a μ, P a μ → Q a μ) : wp x Q := by
  cases x with
  | none => exact h
  | some r => exact f r.1 r.2 h
theorem wp_and {α : Type} {x : Option (α × p_M)} {P Q : α → p_M → Prop} (h : wp x P) (g : wp x Q) : wp x (fun a μ => P a μ ∧ Q a μ) := by
  cases x with
  | none => exact h
  | some r => exact ⟨h, g⟩
theorem wp_get {α : Type} {x : Option (α × p_M)} {P : α → p_M → Prop} (h : wp x P) : ∃ a μ1, x = some (a, μ1) ∧ P a μ1 := by
  cases x with
  | none => exact h.elim
  | some r => exact ⟨r.1, r.2, rfl, h⟩
theorem RMisc_of {μ μ' : p_M} (h15 : mI μ' 0 15 = mI μ 0 15) (h17 : mI μ' 0 17 = mI μ 0 17) (h18 : mI μ' 0 18 = mI μ 0 18) (g1 : mI μ' 65 42 = mI μ 65 42) (g2 : mI μ' 65 74 = mI μ 65 74) (g3 : mI μ' 65 75 = mI μ 65 75) (h : RMisc μ) : RMisc μ' := by
  unfold RMisc at *
  rw [h15, h17, h18, g1, g2, g3]
  exact h
theorem RMisc_fr {cs ss : List Nat} {μ μ' : p_M} (f : Fr cs ss μ μ') (d : dj cs ss [0] [42, 74, 75] = true) (h : RMisc μ) : RMisc μ' := by
  have e := Fr_row f 0 (dj1 d (by decide))
  exact RMisc_of (by rw [e]) (by rw [e]) (by rw [e]) (Fr_sc f 42 (dj2 d (by decide))) (Fr_sc f 74 (dj2 d (by decide))) (Fr_sc f 75 (dj2 d (by decide))) h
theorem RMisc_fr0 {cs ss : List Nat} {μ μ' : p_M} (f : Fr cs ss μ μ') (d : dj cs ss [] [42, 74, 75] = true) (h15 : mI μ' 0 15 = mI μ 0 15) (h17 : mI μ' 0 17 = mI μ 0 17) (h18 : mI μ' 0 18 = mI μ 0 18) (h : RMisc μ) : RMisc μ' :=
  RMisc_of h15 h17 h18 (Fr_sc f 42 (dj2 d (by decide))) (Fr_sc f 74 (dj2 d (by decide))) (Fr_sc f 75 (dj2 d (by decide))) h
theorem RCloth_fr0 {cs ss : List Nat} {μ μ' : p_M} (f : Fr cs ss μ μ') (d : dj cs ss [51, 52, 53, 54, 55, 56, 71, 72, 73] [14] = true) (h0 : mI μ' 0 2 = mI μ 0 2) (h : RCloth μ) : RCloth μ' :=
  RCloth_of h0 (Fr_sc f 14 (dj2 d (by decide))) (Fr_row f 51 (dj1 d (by decide))) (Fr_row f 52 (dj1 d (by decide))) (Fr_row f 53 (dj1 d (by decide))) (Fr_row f 54 (dj1 d (by decide))) (Fr_row f 55 (dj1 d (by decide))) (Fr_row f 56 (dj1 d (by decide))) (Fr_row f 71 (dj1 d (by decide))) (Fr_row f 72 (dj1 d (by decide))) (Fr_row f 73 (dj1 d (by decide))) h
theorem RRec_fr0 {cs ss : List Nat} {μ μ' : p_M} (f : Fr cs ss μ μ') (d : dj cs ss [4, 5, 6, 7, 8, 9] [] = true) (h68 : mI μ' 68 40 = mI μ 68 40) (h69 : ∀ j, j < 20 → mI μ' 69 (800 + j) = mI μ 69 (800 + j) ∧ mI μ' 70 (800 + j) = mI μ 70 (800 + j)) (h : RRec μ) : RRec μ' := by
  refine RRec_keep h (by rw [f.1]) (by rw [f.1]) (fun Q hQ => ?_) h68 h69
  obtain ⟨n, -, -, h | h⟩ := h
  · have e : Q = 4 := Option.some.inj (hQ.symm.trans h.1)
    subst e
    exact ⟨Fr_row f 4 (dj1 d (by decide)), Fr_row f 5 (dj1 d (by decide)), Fr_row f 6 (dj1 d (by decide))⟩
  · have e : Q = 7 := Option.some.inj (hQ.symm.trans h.1)
    subst e
    exact ⟨Fr_row f 7 (dj1 d (by decide)), Fr_row f 8 (dj1 d (by decide)), Fr_row f 9 (dj1 d (by decide))⟩
theorem Nx_fr {cs ss : List Nat} {μ μ' : p_M} (f : Fr cs ss μ μ') (c : Cn μ μ') (h : Core μ') : Nx μ μ' := ⟨h, c, by rw [f.2.2.2.1]; exact Nat.le_add_right _ _⟩
/-- the hardness of the cloths that were there -/
def CK (μ μ' : p_M) : Prop := ∀ C, mI μ 65 14 = nI C → C ≤ 6 → (∀ c, c < C → mI μ' 73 c = mI μ 73 c) ∧ ∃ C', C ≤ C' ∧ C' ≤ 6 ∧ mI μ' 65 14 = nI C'
theorem B_cloth {μ : p_M} (hS : Sh μ) (hR : RCloth μ) (a b c : Int32) : wp (F_L_cloth 0 a b c 112 μ) fun k μ1 => wp (F_X13_cloth a b c μ1) fun z μ2 => CK μ μ2 := by
  obtain ⟨n, hn, e1, e2, e3⟩ := hR
  have thr : ∀ v : Int32, CK μ (sI (sI (sG μ 1 6) 65 0 0) 65 0 v) := fun v C h1 h2 => by
    have f : Fr [] [0] μ (sI (sI (sG μ 1 6) 65 0 0) 65 0 v) := thr_fr
    exact ⟨fun c _ => by rw [Fr_row f 73 (by decide)], C, Nat.le_refl _, h2, (Fr_sc f 14 (by decide)).trans h1⟩
  by_cases c1 : 0 ≤ a ∧ a ≤ 255
  · by_cases c2 : 0 ≤ b ∧ b ≤ 255
    · by_cases c3 : 0 ≤ c ∧ c ≤ 9
      · by_cases cn : n < 6
        · obtain ⟨x, -, hx, rfl⟩ := rg3 a 0 255 0 255 rfl rfl (by decide) (by decide) c1
          obtain ⟨y, -, hy, rfl⟩ := rg3 b 0 255 0 255 rfl rfl (by decide) (by decide) c2
          obtain ⟨w, -, hw, rfl⟩ := rg3 c 0 9 0 9 rfl rfl (by decide) (by decide) c3
          have i1 := ix_nI cn (by decide)
          have k1 := nI_clamp (show n < 2 ^ 31 by omega)
          have hlt : nI n < 6 := nI_lt cn (by decide)
          have hne : ¬ nI n = 6 := fun e => by have := (nI_eq (show n < 2 ^ 31 by omega) (show 6 < 2 ^ 31 by decide)).mp e; omega
          have n0 : ¬ 0 = 51 + n := by omega
          have n65 : ¬ 65 = 51 + n := by omega
          have n73 : ¬ 73 = 51 + n := by omega
          simp only [bd_some, p_let_eq, p_ok, mI_sI, mR_sI, mK_sI, mN_sI, mL_sI, mI_sG, mR_sG, mK_sG, mN_sG, mL_sG, mI_sJ, mR_sJ, mK_sJ, mN_sJ, mL_sJ, z_up, ↓reduceIte, and_self, true_and, and_true, false_and, and_false, not_true_eq_false, not_false_eq_true, Nat.reduceEqDiff, i_10, i_20, i_30, w_in, w_need1, w_need0, m_in, m_thr0, m_thr1, tM, aM, nI_1, nI_pred, reduceIte, wp_some, eq_self, bI_T, bI_F, F_L_cloth, F_X12_cloth, F_X12_cloth_c36, F_X12_cloth_c37, F_X13_cloth, F_X13_cloth_c38, F_X13_cloth_c43, F_X13_cloth_c65, F_X13_cloth_c72, F_X3_begin, s_o0 hS, s_r0_0 hS, s_r0_1 hS, s_r0_10 hS, s_r0_11 hS, s_r0_12 hS, s_r0_14 hS, s_r0_16 hS, s_r0_19 hS, s_r0_7 hS, s_r0_8 hS, s_r0_9 hS, s_a3 hS, s_l3 hS, s_o3 hS, s_r3_0 hS, s_r3_1 hS, s_r3_2 hS, s_r3_3 hS, s_r3_4 hS, s_r3_5 hS, s_o112 hS, w_room, s_r3 hS cn, s_o51v hS cn, e1, e2, c1, c2, c3, i1, k1, cn, hlt, hne, n0, n65, Nat.le_refl, show 23 ≤ 26 from by decide]
          intro C h1 h2
          have eC : n = C := (nI_eq (show n < 2 ^ 31 by omega) (show C < 2 ^ 31 by omega)).mp (e2.symm.trans h1)
          subst eC
          refine ⟨fun c hc => ?_, n + 1, by omega, by omega, by simp only [mI_sI, mR_sI, mK_sI, mN_sI, mL_sI, mI_sG, mR_sG, mK_sG, mN_sG, mL_sG, mI_sJ, mR_sJ, mK_sJ, mN_sJ, mL_sJ, mI_sA, mR_sA, mK_sA, mN_sA, mL_sA, z_up, ↓reduceIte, reduceIte, Nat.reduceEqDiff, true_and, and_true]⟩
          have ej : ¬ c = n := by omega
          simp only [mI_sI, mR_sI, mK_sI, mN_sI, mL_sI, mI_sG, mR_sG, mK_sG, mN_sG, mL_sG, mI_sJ, mR_sJ, mK_sJ, mN_sJ, mL_sJ, mI_sA, mR_sA, mK_sA, mN_sA, mL_sA, z_up, ↓reduceIte, reduceIte, Nat.reduceEqDiff, true_and, and_true, n73, ej]
        · have hn5 : n = 6 := by omega
          subst hn5
          have e1 : mI μ 0 2 = 6 := e1
          have e2 : mI μ 65 14 = 6 := e2
          have hlt : ¬ (6 : Int32) < 6 := by decide
          simp only [bd_some, p_let_eq, p_ok, mI_sI, mR_sI, mK_sI, mN_sI, mL_sI, mI_sG, mR_sG, mK_sG, mN_sG, mL_sG, mI_sJ, mR_sJ, mK_sJ, mN_sJ, mL_sJ, z_up, ↓reduceIte, and_self, true_and, and_true, false_and, and_false, not_true_eq_false, not_false_eq_true, Nat.reduceEqDiff, i_10, i_20, i_30, w_in, w_need1, w_need0, m_in, m_thr0, m_thr1, tM, aM, nI_1, nI_pred, reduceIte, wp_some, eq_self, bI_T, bI_F, F_L_cloth, F_X12_cloth, F_X12_cloth_c36, F_X12_cloth_c37, F_X13_cloth, F_X13_cloth_c38, F_X13_cloth_c43, F_X13_cloth_c65, F_X13_cloth_c72, F_X3_begin, s_o0 hS, s_r0_0 hS, s_r0_1 hS, s_r0_10 hS, s_r0_11 hS, s_r0_12 hS, s_r0_14 hS, s_r0_16 hS, s_r0_19 hS, s_r0_7 hS, s_r0_8 hS, s_r0_9 hS, s_a3 hS, s_l3 hS, s_o3 hS, s_r3_0 hS, s_r3_1 hS, s_r3_2 hS, s_r3_3 hS, s_r3_4 hS, s_r3_5 hS, s_o112 hS, w_room, e1, e2, c1, c2, c3, hlt]
          exact thr 2
      · simp only [bd_some, p_let_eq, p_ok, mI_sI, mR_sI, mK_sI, mN_sI, mL_sI, mI_sG, mR_sG, mK_sG, mN_sG, mL_sG, mI_sJ, mR_sJ, mK_sJ, mN_sJ, mL_sJ, z_up, ↓reduceIte, and_self, true_and, and_true, false_and, and_false, not_true_eq_false, not_false_eq_true, Nat.reduceEqDiff, i_10, i_20, i_30, w_in, w_need1, w_need0, m_in, m_thr0, m_thr1, tM, aM, nI_1, nI_pred, reduceIte, wp_some, eq_self, bI_T, bI_F, F_L_cloth, F_X12_cloth, F_X12_cloth_c36, F_X12_cloth_c37, F_X13_cloth, F_X13_cloth_c38, F_X13_cloth_c43, F_X13_cloth_c65, F_X13_cloth_c72, F_X3_begin, s_o0 hS, s_r0_0 hS, s_r0_1 hS, s_r0_10 hS, s_r0_11 hS, s_r0_12 hS, s_r0_14 hS, s_r0_16 hS, s_r0_19 hS, s_r0_7 hS, s_r0_8 hS, s_r0_9 hS, s_a3 hS, s_l3 hS, s_o3 hS, s_r3_0 hS, s_r3_1 hS, s_r3_2 hS, s_r3_3 hS, s_r3_4 hS, s_r3_5 hS, s_o112 hS, c1, c2, c3]
        exact thr 1
    · simp only [bd_some, p_let_eq, p_ok, mI_sI, mR_sI, mK_sI, mN_sI, mL_sI, mI_sG, mR_sG, mK_sG, mN_sG, mL_sG, mI_sJ, mR_sJ, mK_sJ, mN_sJ, mL_sJ, z_up, ↓reduceIte, and_self, true_and, and_true, false_and, and_false, not_true_eq_false, not_false_eq_true, Nat.reduceEqDiff, i_10, i_20, i_30, w_in, w_need1, w_need0, m_in, m_thr0, m_thr1, tM, aM, nI_1, nI_pred, reduceIte, wp_some, eq_self, bI_T, bI_F, F_L_cloth, F_X12_cloth, F_X12_cloth_c36, F_X12_cloth_c37, F_X13_cloth, F_X13_cloth_c38, F_X13_cloth_c43, F_X13_cloth_c65, F_X13_cloth_c72, F_X3_begin, s_o0 hS, s_r0_0 hS, s_r0_1 hS, s_r0_10 hS, s_r0_11 hS, s_r0_12 hS, s_r0_14 hS, s_r0_16 hS, s_r0_19 hS, s_r0_7 hS, s_r0_8 hS, s_r0_9 hS, s_a3 hS, s_l3 hS, s_o3 hS, s_r3_0 hS, s_r3_1 hS, s_r3_2 hS, s_r3_3 hS, s_r3_4 hS, s_r3_5 hS, s_o112 hS, c1, c2]
      exact thr 1
  · simp only [bd_some, p_let_eq, p_ok, mI_sI, mR_sI, mK_sI, mN_sI, mL_sI, mI_sG, mR_sG, mK_sG, mN_sG, mL_sG, mI_sJ, mR_sJ, mK_sJ, mN_sJ, mL_sJ, z_up, ↓reduceIte, and_self, true_and, and_true, false_and, and_false, not_true_eq_false, not_false_eq_true, Nat.reduceEqDiff, i_10, i_20, i_30, w_in, w_need1, w_need0, m_in, m_thr0, m_thr1, tM, aM, nI_1, nI_pred, reduceIte, wp_some, eq_self, bI_T, bI_F, F_L_cloth, F_X12_cloth, F_X12_cloth_c36, F_X12_cloth_c37, F_X13_cloth, F_X13_cloth_c38, F_X13_cloth_c43, F_X13_cloth_c65, F_X13_cloth_c72, F_X3_begin, s_o0 hS, s_r0_0 hS, s_r0_1 hS, s_r0_10 hS, s_r0_11 hS, s_r0_12 hS, s_r0_14 hS, s_r0_16 hS, s_r0_19 hS, s_r0_7 hS, s_r0_8 hS, s_r0_9 hS, s_a3 hS, s_l3 hS, s_o3 hS, s_r3_0 hS, s_r3_1 hS, s_r3_2 hS, s_r3_3 hS, s_r3_4 hS, s_r3_5 hS, s_o112 hS, c1]
    exact thr 1
theorem K_tank {μ : p_M} (h : Core μ) (v1 : Int32) : wp (F_L_tank 0 v1 112 μ) fun k μ1 => wp (F_X13_tank v1 μ1) fun b μ2 => Qi k b μ μ2 := by
  obtain ⟨hS, hT, hCl, hQ, hK, hW, hG, hH, hP, hL, hM⟩ := h
  refine wp_mono (A_tank hS hW v1) fun k μ1 h1 => wp_mono h1 fun b μ2 h2 => ?_
  obtain ⟨⟨p1, p2, c⟩, r, f⟩ := h2
  exact ⟨p1, p2, Nx_fr f c ⟨Sh_fr f hS, RText_fr f (by decide) hT, RCloth_fr f (by decide) hCl, RRec_fr f (by decide) hQ, RKinds_fr f (by decide) hK, r, RGarm_fr f (by decide) hG, RHouse_fr f (by decide) hH, RPan_fr f (by decide) hP, RLots_fr0 f (by decide) (by decide) (by decide) (by decide) hL, RMisc_fr f (by decide) hM⟩⟩
theorem K_clear {μ : p_M} (h : Core μ) : wp (F_X12_clear 0 μ) fun k μ1 => wp (F_X13_clear μ1) fun b μ2 => Qd k b μ μ2 := by
  obtain ⟨hS, hT, hCl, hQ, hK, hW, hG, hH, hP, hL, hM⟩ := h
  refine wp_mono (A_clear hS hK) fun k μ1 h1 => wp_mono h1 fun b μ2 h2 => ?_
  obtain ⟨p1, c, r, f⟩ := h2
  exact ⟨p1, Nx_fr f c ⟨Sh_fr f hS, RText_fr f (by decide) hT, RCloth_fr f (by decide) hCl, RRec_fr f (by decide) hQ, r, RWater_fr f (by decide) hW, RGarm_fr f (by decide) hG, RHouse_fr f (by decide) hH, RPan_fr f (by decide) hP, RLots_fr0 f (by decide) (by decide) (by decide) (by decide) hL, RMisc_fr f (by decide) hM⟩⟩
theorem K_batch {μ : p_M} (h : Core μ) (v1 : Int32) : wp (F_L_batch 0 v1 112 μ) fun k μ1 => wp (F_X13_batch v1 μ1) fun b μ2 => Qi k b μ μ2 := by
  obtain ⟨hS, hT, hCl, hQ, hK, hW, hG, hH, hP, hL, hM⟩ := h
  refine wp_mono (A_batch hS hK v1) fun k μ1 h1 => wp_mono h1 fun b μ2 h2 => ?_
  obtain ⟨⟨p1, p2, c⟩, r, f⟩ := h2
  exact ⟨p1, p2, Nx_fr f c ⟨Sh_fr f hS, RText_fr f (by decide) hT, RCloth_fr f (by decide) hCl, RRec_fr f (by decide) hQ, r, RWater_fr f (by decide) hW, RGarm_fr f (by decide) hG, RHouse_fr f (by decide) hH, RPan_fr f (by decide) hP, RLots_fr0 f (by decide) (by decide) (by decide) (by decide) hL, RMisc_fr f (by decide) hM⟩⟩
theorem K_carry {μ : p_M} (h : Core μ) (v1 v2 v3 : Int32) : wp (F_L_carry 0 v1 v2 v3 μ) fun k μ1 => wp (F_X13_carry v1 v2 v3 μ1) fun b μ2 => Qv k μ μ2 := by
  obtain ⟨hS, hT, hCl, hQ, hK, hW, hG, hH, hP, hL, hM⟩ := h
  refine wp_mono (A_carry hS hK v1 v2 v3) fun k μ1 h1 => wp_mono h1 fun b μ2 h2 => ?_
  obtain ⟨⟨p1, c⟩, r, f⟩ := h2
  exact ⟨p1, Nx_fr f c ⟨Sh_fr f hS, RText_fr f (by decide) hT, RCloth_fr f (by decide) hCl, RRec_fr f (by decide) hQ, r, RWater_fr f (by decide) hW, RGarm_fr f (by decide) hG, RHouse_fr f (by decide) hH, RPan_fr f (by decide) hP, RLots_fr0 f (by decide) (by decide) (by decide) (by decide) hL, RMisc_fr f (by decide) hM⟩⟩
theorem K_fault {μ : p_M} (h : Core μ) : wp (F_X12_fault 0 μ) fun k μ1 => wp (F_X13_fault μ1) fun b μ2 => Qd k b μ μ2 := by
  obtain ⟨hS, hT, hCl, hQ, hK, hW, hG, hH, hP, hL, hM⟩ := h
  refine wp_mono (A_fault hS hT) fun k μ1 h1 => wp_mono h1 fun b μ2 h2 => ?_
  obtain ⟨p1, c, r, f⟩ := h2
  exact ⟨p1, Nx_fr f c ⟨Sh_fr f hS, r, RCloth_fr f (by decide) hCl, RRec_fr f (by decide) hQ, RKinds_fr f (by decide) hK, RWater_fr f (by decide) hW, RGarm_fr f (by decide) hG, RHouse_fr f (by decide) hH, RPan_fr f (by decide) hP, RLots_fr0 f (by decide) (by decide) (by decide) (by decide) hL, RMisc_fr f (by decide) hM⟩⟩
theorem K_end {μ : p_M} (h : Core μ) (v1 : Int32) : wp (F_X12_end 0 v1 μ) fun k μ1 => wp (F_X13_end v1 μ1) fun b μ2 => Qd k b μ μ2 := by
  obtain ⟨hS, hT, hCl, hQ, hK, hW, hG, hH, hP, hL, hM⟩ := h
  refine wp_mono (A_end hS hT v1) fun k μ1 h1 => wp_mono h1 fun b μ2 h2 => ?_
  obtain ⟨p1, c, r, f⟩ := h2
  exact ⟨p1, Nx_fr f c ⟨Sh_fr f hS, r, RCloth_fr f (by decide) hCl, RRec_fr f (by decide) hQ, RKinds_fr f (by decide) hK, RWater_fr f (by decide) hW, RGarm_fr f (by decide) hG, RHouse_fr f (by decide) hH, RPan_fr f (by decide) hP, RLots_fr0 f (by decide) (by decide) (by decide) (by decide) hL, RMisc_fr f (by decide) hM⟩⟩
theorem K_tells {μ : p_M} (h : Core μ) (v1 : Int32) : wp (F_L_tells 0 v1 112 μ) fun k μ1 => wp (F_X13_tells v1 μ1) fun b μ2 => Qi k b μ μ2 := by
  obtain ⟨hS, hT, hCl, hQ, hK, hW, hG, hH, hP, hL, hM⟩ := h
  refine wp_mono (A_tells hS hH v1) fun k μ1 h1 => wp_mono h1 fun b μ2 h2 => ?_
  obtain ⟨⟨p1, p2, c⟩, r, f⟩ := h2
  exact ⟨p1, p2, Nx_fr f c ⟨Sh_fr f hS, RText_fr f (by decide) hT, RCloth_fr f (by decide) hCl, RRec_fr f (by decide) hQ, RKinds_fr f (by decide) hK, RWater_fr f (by decide) hW, RGarm_fr f (by decide) hG, r, RPan_fr f (by decide) hP, RLots_fr0 f (by decide) (by decide) (by decide) (by decide) hL, RMisc_fr f (by decide) hM⟩⟩
theorem K_heat {μ : p_M} (h : Core μ) (v1 v2 v3 : Int32) : wp (F_L_heat 0 v1 v2 v3 112 μ) fun k μ1 => wp (F_X13_heat v1 v2 v3 μ1) fun b μ2 => Qz k b μ μ2 := by
  obtain ⟨hS, hT, hCl, hQ, hK, hW, hG, hH, hP, hL, hM⟩ := h
  refine wp_mono (A_heat hS hP v1 v2 v3) fun k μ1 h1 => wp_mono h1 fun b μ2 h2 => ?_
  obtain ⟨⟨p1, p2, c⟩, r, f⟩ := h2
  exact ⟨p1, p2, Nx_fr f c ⟨Sh_fr f hS, RText_fr f (by decide) hT, RCloth_fr f (by decide) hCl, RRec_fr f (by decide) hQ, RKinds_fr f (by decide) hK, RWater_fr f (by decide) hW, RGarm_fr f (by decide) hG, RHouse_fr f (by decide) hH, r, RLots_fr0 f (by decide) (by decide) (by decide) (by decide) hL, RMisc_fr f (by decide) hM⟩⟩
theorem K_burned {μ : p_M} (h : Core μ) (v1 v2 v3 : Int32) : wp (F_L_burned 0 v1 v2 v3 112 μ) fun k μ1 => wp (F_X13_burned v1 v2 v3 μ1) fun b μ2 => Qi k b μ μ2 := by
  obtain ⟨hS, hT, hCl, hQ, hK, hW, hG, hH, hP, hL, hM⟩ := h
  refine wp_mono (A_burned hS hP v1 v2 v3) fun k μ1 h1 => wp_mono h1 fun b μ2 h2 => ?_
  obtain ⟨⟨p1, p2, c⟩, r, f⟩ := h2
  exact ⟨p1, p2, Nx_fr f c ⟨Sh_fr f hS, RText_fr f (by decide) hT, RCloth_fr f (by decide) hCl, RRec_fr f (by decide) hQ, RKinds_fr f (by decide) hK, RWater_fr f (by decide) hW, RGarm_fr f (by decide) hG, RHouse_fr f (by decide) hH, r, RLots_fr0 f (by decide) (by decide) (by decide) (by decide) hL, RMisc_fr f (by decide) hM⟩⟩
theorem K_pattern {μ : p_M} (h : Core μ) (v1 v2 : Int32) : wp (F_L_pattern 0 v1 v2 μ) fun k μ1 => wp (F_X13_pattern v1 v2 μ1) fun b μ2 => Qv k μ μ2 := by
  obtain ⟨hS, hT, hCl, hQ, hK, hW, hG, hH, hP, hL, hM⟩ := h
  refine wp_mono (A_pattern hS hP v1 v2) fun k μ1 h1 => wp_mono h1 fun b μ2 h2 => ?_
  obtain ⟨⟨p1, c⟩, r, f⟩ := h2
  exact ⟨p1, Nx_fr f c ⟨Sh_fr f hS, RText_fr f (by decide) hT, RCloth_fr f (by decide) hCl, RRec_fr f (by decide) hQ, RKinds_fr f (by decide) hK, RWater_fr f (by decide) hW, RGarm_fr f (by decide) hG, RHouse_fr f (by decide) hH, r, RLots_fr0 f (by decide) (by decide) (by decide) (by decide) hL, RMisc_fr f (by decide) hM⟩⟩
theorem K_seam {μ : p_M} (h : Core μ) (v1 : Int32) : wp (F_L_seam 0 v1 112 μ) fun k μ1 => wp (F_X13_seam v1 μ1) fun b μ2 => Qi k b μ μ2 := by
  obtain ⟨hS, hT, hCl, hQ, hK, hW, hG, hH, hP, hL, hM⟩ := h
  refine wp_mono (A_seam hS hP v1) fun k μ1 h1 => wp_mono h1 fun b μ2 h2 => ?_
  obtain ⟨⟨p1, p2, c⟩, r, f⟩ := h2
  exact ⟨p1, p2, Nx_fr f c ⟨Sh_fr f hS, RText_fr f (by decide) hT, RCloth_fr f (by decide) hCl, RRec_fr f (by decide) hQ, RKinds_fr f (by decide) hK, RWater_fr f (by decide) hW, RGarm_fr f (by decide) hG, RHouse_fr f (by decide) hH, r, RLots_fr0 f (by decide) (by decide) (by decide) (by decide) hL, RMisc_fr f (by decide) hM⟩⟩
theorem K_shift {μ : p_M} (h : Core μ) : wp (F_X12_shift 0 μ) fun k μ1 => wp (F_X13_shift μ1) fun b μ2 => Qd k b μ μ2 := by
  obtain ⟨hS, hT, hCl, hQ, hK, hW, hG, hH, hP, hL, hM⟩ := h
  refine wp_mono (A_shift hS hP) fun k μ1 h1 => wp_mono h1 fun b μ2 h2 => ?_
  obtain ⟨p1, c, r, f⟩ := h2
  exact ⟨p1, Nx_fr f c ⟨Sh_fr f hS, RText_fr f (by decide) hT, RCloth_fr f (by decide) hCl, RRec_fr f (by decide) hQ, RKinds_fr f (by decide) hK, RWater_fr f (by decide) hW, RGarm_fr f (by decide) hG, RHouse_fr f (by decide) hH, r, RLots_fr0 f (by decide) (by decide) (by decide) (by decide) hL, RMisc_fr f (by decide) hM⟩⟩
theorem K_burn {μ : p_M} (h : Core μ) (v1 v2 v3 : Int32) : wp (F_L_burn 0 v1 v2 v3 μ) fun k μ1 => wp (F_X13_burn v1 v2 v3 μ1) fun b μ2 => Qv k μ μ2 := by
  obtain ⟨hS, hT, hCl, hQ, hK, hW, hG, hH, hP, hL, hM⟩ := h
  refine wp_mono (A_burn hS hP v1 v2 v3) fun k μ1 h1 => wp_mono h1 fun b μ2 h2 => ?_
  obtain ⟨⟨p1, c⟩, r, f⟩ := h2
  exact ⟨p1, Nx_fr f c ⟨Sh_fr f hS, RText_fr f (by decide) hT, RCloth_fr f (by decide) hCl, RRec_fr f (by decide) hQ, RKinds_fr f (by decide) hK, RWater_fr f (by decide) hW, RGarm_fr f (by decide) hG, RHouse_fr f (by decide) hH, r, RLots_fr0 f (by decide) (by decide) (by decide) (by decide) hL, RMisc_fr f (by decide) hM⟩⟩
theorem K_draw {μ : p_M} (h : Core μ) (v1 v2 : Int32) : wp (F_L_draw 0 v1 v2 112 μ) fun k μ1 => wp (F_X13_draw v1 v2 μ1) fun b μ2 => Qi k b μ μ2 := by
  obtain ⟨hS, hT, hCl, hQ, hK, hW, hG, hH, hP, hL, hM⟩ := h
  refine wp_mono (A_draw hS hW v1 v2) fun k μ1 h1 => wp_mono h1 fun b μ2 h2 => ?_
  obtain ⟨⟨p1, p2, c⟩, r, f⟩ := h2
  exact ⟨p1, p2, Nx_fr f c ⟨Sh_fr f hS, RText_fr f (by decide) hT, RCloth_fr f (by decide) hCl, RRec_fr f (by decide) hQ, RKinds_fr f (by decide) hK, r, RGarm_fr f (by decide) hG, RHouse_fr f (by decide) hH, RPan_fr f (by decide) hP, RLots_fr0 f (by decide) (by decide) (by decide) (by decide) hL, RMisc_fr f (by decide) hM⟩⟩
theorem K_has {μ : p_M} (h : Core μ) (v1 v2 : Int32) : wp (F_L_has 0 v1 v2 112 μ) fun k μ1 => wp (F_X13_has v1 v2 μ1) fun b μ2 => Qi k b μ μ2 := by
  obtain ⟨hS, hT, hCl, hQ, hK, hW, hG, hH, hP, hL, hM⟩ := h
  refine wp_mono (A_has hS hW v1 v2) fun k μ1 h1 => wp_mono h1 fun b μ2 h2 => ?_
  obtain ⟨⟨p1, p2, c⟩, r, f⟩ := h2
  exact ⟨p1, p2, Nx_fr f c ⟨Sh_fr f hS, RText_fr f (by decide) hT, RCloth_fr f (by decide) hCl, RRec_fr f (by decide) hQ, RKinds_fr f (by decide) hK, r, RGarm_fr f (by decide) hG, RHouse_fr f (by decide) hH, RPan_fr f (by decide) hP, RLots_fr0 f (by decide) (by decide) (by decide) (by decide) hL, RMisc_fr f (by decide) hM⟩⟩
theorem K_pour {μ : p_M} (h : Core μ) (v1 v2 v3 : Int32) : wp (F_L_pour 0 v1 v2 v3 112 μ) fun k μ1 => wp (F_X13_pour v1 v2 v3 μ1) fun b μ2 => Qi k b μ μ2 := by
  obtain ⟨hS, hT, hCl, hQ, hK, hW, hG, hH, hP, hL, hM⟩ := h
  refine wp_mono (A_pour hS hW v1 v2 v3) fun k μ1 h1 => wp_mono h1 fun b μ2 h2 => ?_
  obtain ⟨⟨p1, p2, c⟩, r, f⟩ := h2
  exact ⟨p1, p2, Nx_fr f c ⟨Sh_fr f hS, RText_fr f (by decide) hT, RCloth_fr f (by decide) hCl, RRec_fr f (by decide) hQ, RKinds_fr f (by decide) hK, r, RGarm_fr f (by decide) hG, RHouse_fr f (by decide) hH, RPan_fr f (by decide) hP, RLots_fr0 f (by decide) (by decide) (by decide) (by decide) hL, RMisc_fr f (by decide) hM⟩⟩
theorem K_garment {μ : p_M} (h : Core μ) (v1 : Int32) : wp (F_L_garment 0 v1 112 μ) fun k μ1 => wp (F_X13_garment v1 μ1) fun b μ2 => Qi k b μ μ2 := by
  obtain ⟨hS, hT, hCl, hQ, hK, hW, hG, hH, hP, hL, hM⟩ := h
  refine wp_mono (A_garment hS hG v1) fun k μ1 h1 => wp_mono h1 fun b μ2 h2 => ?_
  obtain ⟨⟨p1, p2, c⟩, r, f⟩ := h2
  exact ⟨p1, p2, Nx_fr f c ⟨Sh_fr f hS, RText_fr f (by decide) hT, RCloth_fr f (by decide) hCl, RRec_fr f (by decide) hQ, RKinds_fr f (by decide) hK, RWater_fr f (by decide) hW, r, RHouse_fr f (by decide) hH, RPan_fr f (by decide) hP, RLots_fr0 f (by decide) (by decide) (by decide) (by decide) hL, RMisc_fr f (by decide) hM⟩⟩
theorem K_spread {μ : p_M} (h : Core μ) (v1 : Int32) : wp (F_L_spread 0 v1 112 μ) fun k μ1 => wp (F_X13_spread v1 μ1) fun b μ2 => Qi k b μ μ2 := by
  obtain ⟨hS, hT, hCl, hQ, hK, hW, hG, hH, hP, hL, hM⟩ := h
  refine wp_mono (A_spread hS hG v1) fun k μ1 h1 => wp_mono h1 fun b μ2 h2 => ?_
  obtain ⟨⟨p1, p2, c⟩, r, f⟩ := h2
  exact ⟨p1, p2, Nx_fr f c ⟨Sh_fr f hS, RText_fr f (by decide) hT, RCloth_fr f (by decide) hCl, RRec_fr f (by decide) hQ, RKinds_fr f (by decide) hK, RWater_fr f (by decide) hW, r, RHouse_fr f (by decide) hH, RPan_fr f (by decide) hP, RLots_fr0 f (by decide) (by decide) (by decide) (by decide) hL, RMisc_fr f (by decide) hM⟩⟩
theorem K_packs {μ : p_M} (h : Core μ) (v1 v2 v3 : Int32) : wp (F_L_packs 0 v1 v2 v3 112 μ) fun k μ1 => wp (F_X13_packs v1 v2 v3 μ1) fun b μ2 => Qi k b μ μ2 := by
  obtain ⟨hS, hT, hCl, hQ, hK, hW, hG, hH, hP, hL, hM⟩ := h
  refine wp_mono (A_packs hS hG v1 v2 v3) fun k μ1 h1 => wp_mono h1 fun b μ2 h2 => ?_
  obtain ⟨⟨p1, p2, c⟩, r, f⟩ := h2
  exact ⟨p1, p2, Nx_fr f c ⟨Sh_fr f hS, RText_fr f (by decide) hT, RCloth_fr f (by decide) hCl, RRec_fr f (by decide) hQ, RKinds_fr f (by decide) hK, RWater_fr f (by decide) hW, r, RHouse_fr f (by decide) hH, RPan_fr f (by decide) hP, RLots_fr0 f (by decide) (by decide) (by decide) (by decide) hL, RMisc_fr f (by decide) hM⟩⟩
theorem K_cost {μ : p_M} (h : Core μ) : wp (F_X12_cost 0 μ) fun k μ1 => wp (F_X13_cost μ1) fun b μ2 => Qd k b μ μ2 := by
  obtain ⟨hS, hT, hCl, hQ, hK, hW, hG, hH, hP, hL, hM⟩ := h
  refine wp_mono (A_cost hS hQ) fun k μ1 h1 => wp_mono h1 fun b μ2 h2 => ?_
  obtain ⟨p1, c, r, f⟩ := h2
  exact ⟨p1, Nx_fr f c ⟨Sh_fr f hS, RText_fr f (by decide) hT, RCloth_fr f (by decide) hCl, r, RKinds_fr f (by decide) hK, RWater_fr f (by decide) hW, RGarm_fr f (by decide) hG, RHouse_fr f (by decide) hH, RPan_fr f (by decide) hP, RLots_fr0 f (by decide) (by decide) (by decide) (by decide) hL, RMisc_fr f (by decide) hM⟩⟩
theorem K_feed {μ : p_M} (h : Core μ) (v1 v2 v3 v4 v5 : Int32) : wp (F_X12_feed 0 v1 v2 v3 v4 v5 μ) fun k μ1 => wp (F_X13_feed v1 v2 v3 v4 v5 μ1) fun b μ2 => Qd k b μ μ2 := by
  obtain ⟨hS, hT, hCl, hQ, hK, hW, hG, hH, hP, hL, hM⟩ := h
  refine wp_mono (A_feed hS hT v1 v2 v3 v4 v5) fun k μ1 h1 => wp_mono h1 fun b μ2 h2 => ?_
  obtain ⟨p1, c, r, f⟩ := h2
  exact ⟨p1, Nx_fr f c ⟨Sh_fr f hS, r, RCloth_fr f (by decide) hCl, RRec_fr f (by decide) hQ, RKinds_fr f (by decide) hK, RWater_fr f (by decide) hW, RGarm_fr f (by decide) hG, RHouse_fr f (by decide) hH, RPan_fr f (by decide) hP, RLots_fr0 f (by decide) (by decide) (by decide) (by decide) hL, RMisc_fr f (by decide) hM⟩⟩
theorem K_order {μ : p_M} (h : Core μ) : wp (F_X12_order 0 μ) fun k μ1 => wp (F_X13_order μ1) fun b μ2 => Qd k b μ μ2 := by
  obtain ⟨hS, hT, hCl, hQ, hK, hW, hG, hH, hP, hL, hM⟩ := h
  refine wp_mono (A_order hS hK) fun k μ1 h1 => wp_mono h1 fun b μ2 h2 => ?_
  obtain ⟨p1, c, r, f⟩ := h2
  exact ⟨p1, Nx_fr f c ⟨Sh_fr f hS, RText_fr f (by decide) hT, RCloth_fr f (by decide) hCl, RRec_fr f (by decide) hQ, r, RWater_fr f (by decide) hW, RGarm_fr f (by decide) hG, RHouse_fr f (by decide) hH, RPan_fr f (by decide) hP, RLots_fr0 f (by decide) (by decide) (by decide) (by decide) hL, RMisc_fr f (by decide) hM⟩⟩
theorem K_led {μ : p_M} (h : Core μ) (v1 v2 : Int32) : wp (F_L_led 0 v1 v2 112 μ) fun k μ1 => wp (F_X13_led v1 v2 μ1) fun b μ2 => Qi k b μ μ2 := by
  obtain ⟨hS, hT, hCl, hQ, hK, hW, hG, hH, hP, hL, hM⟩ := h
  refine wp_mono (A_led hS hL v1 v2) fun k μ1 h1 => wp_mono h1 fun b μ2 h2 => ?_
  obtain ⟨⟨p1, p2, c⟩, f⟩ := h2
  exact ⟨p1, p2, Nx_fr f c ⟨Sh_fr f hS, RText_fr f (by decide) hT, RCloth_fr f (by decide) hCl, RRec_fr f (by decide) hQ, RKinds_fr f (by decide) hK, RWater_fr f (by decide) hW, RGarm_fr f (by decide) hG, RHouse_fr f (by decide) hH, RPan_fr f (by decide) hP, RLots_fr0 f (by decide) (by decide) (by decide) (by decide) hL, RMisc_fr f (by decide) hM⟩⟩
theorem K_works {μ : p_M} (h : Core μ) (v1 v2 : Int32) : wp (F_L_works 0 v1 v2 112 μ) fun k μ1 => wp (F_X13_works v1 v2 μ1) fun b μ2 => Qi k b μ μ2 := by
  obtain ⟨hS, hT, hCl, hQ, hK, hW, hG, hH, hP, hL, hM⟩ := h
  refine wp_mono (A_works hS hL v1 v2) fun k μ1 h1 => wp_mono h1 fun b μ2 h2 => ?_
  obtain ⟨⟨p1, p2, c⟩, f⟩ := h2
  exact ⟨p1, p2, Nx_fr f c ⟨Sh_fr f hS, RText_fr f (by decide) hT, RCloth_fr f (by decide) hCl, RRec_fr f (by decide) hQ, RKinds_fr f (by decide) hK, RWater_fr f (by decide) hW, RGarm_fr f (by decide) hG, RHouse_fr f (by decide) hH, RPan_fr f (by decide) hP, RLots_fr0 f (by decide) (by decide) (by decide) (by decide) hL, RMisc_fr f (by decide) hM⟩⟩
theorem K_known {μ : p_M} (h : Core μ) (v1 v2 v3 : Int32) : wp (F_L_known 0 v1 v2 v3 112 μ) fun k μ1 => wp (F_X13_known v1 v2 v3 μ1) fun b μ2 => Qi k b μ μ2 := by
  obtain ⟨hS, hT, hCl, hQ, hK, hW, hG, hH, hP, hL, hM⟩ := h
  refine wp_mono (A_known hS hL v1 v2 v3) fun k μ1 h1 => wp_mono h1 fun b μ2 h2 => ?_
  obtain ⟨⟨p1, p2, c⟩, f⟩ := h2
  exact ⟨p1, p2, Nx_fr f c ⟨Sh_fr f hS, RText_fr f (by decide) hT, RCloth_fr f (by decide) hCl, RRec_fr f (by decide) hQ, RKinds_fr f (by decide) hK, RWater_fr f (by decide) hW, RGarm_fr f (by decide) hG, RHouse_fr f (by decide) hH, RPan_fr f (by decide) hP, RLots_fr0 f (by decide) (by decide) (by decide) (by decide) hL, RMisc_fr f (by decide) hM⟩⟩
theorem K_sorted {μ : p_M} (h : Core μ) (v1 v2 v3 : Int32) : wp (F_L_sorted 0 v1 v2 v3 112 μ) fun k μ1 => wp (F_X13_sorted v1 v2 v3 μ1) fun b μ2 => Qi k b μ μ2 := by
  obtain ⟨hS, hT, hCl, hQ, hK, hW, hG, hH, hP, hL, hM⟩ := h
  refine wp_mono (A_sorted hS hL v1 v2 v3) fun k μ1 h1 => wp_mono h1 fun b μ2 h2 => ?_
  obtain ⟨⟨p1, p2, c⟩, f⟩ := h2
  exact ⟨p1, p2, Nx_fr f c ⟨Sh_fr f hS, RText_fr f (by decide) hT, RCloth_fr f (by decide) hCl, RRec_fr f (by decide) hQ, RKinds_fr f (by decide) hK, RWater_fr f (by decide) hW, RGarm_fr f (by decide) hG, RHouse_fr f (by decide) hH, RPan_fr f (by decide) hP, RLots_fr0 f (by decide) (by decide) (by decide) (by decide) hL, RMisc_fr f (by decide) hM⟩⟩
theorem K_count {μ : p_M} (h : Core μ) (v1 : Int32) : wp (F_X12_count 0 v1 μ) fun k μ1 => wp (F_X13_count v1 μ1) fun b μ2 => Qd k b μ μ2 := by
  obtain ⟨hS, hT, hCl, hQ, hK, hW, hG, hH, hP, hL, hM⟩ := h
  refine wp_mono (A_count hS hCl hQ hK hW hG hM hL hH v1) fun k μ1 h1 => wp_mono h1 fun b μ2 h2 => ?_
  obtain ⟨p1, c, f⟩ := h2
  exact ⟨p1, Nx_fr f c ⟨Sh_fr f hS, RText_fr f (by decide) hT, RCloth_fr f (by decide) hCl, RRec_fr f (by decide) hQ, RKinds_fr f (by decide) hK, RWater_fr f (by decide) hW, RGarm_fr f (by decide) hG, RHouse_fr f (by decide) hH, RPan_fr f (by decide) hP, RLots_fr0 f (by decide) (by decide) (by decide) (by decide) hL, RMisc_fr f (by decide) hM⟩⟩
theorem K_look {μ : p_M} (h : Core μ) (v1 v2 v3 : Int32) : wp (F_L_look 0 v1 v2 v3 112 μ) fun k μ1 => wp (F_X13_look v1 v2 v3 μ1) fun b μ2 => Qi k b μ μ2 := by
  obtain ⟨hS, hT, hCl, hQ, hK, hW, hG, hH, hP, hL, hM⟩ := h
  refine wp_mono (A_look hS hCl hQ v1 v2 v3) fun k μ1 h1 => wp_mono h1 fun b μ2 h2 => ?_
  obtain ⟨⟨p1, p2, c⟩, g, f⟩ := h2
  exact ⟨p1, p2, Nx_fr f c ⟨Sh_fr f hS, RText_fr f (by decide) hT, RCloth_fr f (by decide) hCl, RRec_fr f (by decide) hQ, RKinds_fr f (by decide) hK, RWater_fr f (by decide) hW, RGarm_fr f (by decide) hG, RHouse_fr f (by decide) hH, RPan_fr f (by decide) hP, RLots_fr f (by decide) (by decide) (by decide) (by rw [Fr_row f 0 (by decide)]) (fun j _ => by rw [Fr_row f 68 (by decide)]) (fun j _ => by rw [Fr_row f 69 (by decide), Fr_row f 70 (by decide)]; exact ⟨rfl, rfl⟩) (fun j hj => g j (Or.inl hj)) (fun j => by rw [Fr_row f 73 (by decide)]) hL, RMisc_fr f (by decide) hM⟩⟩
theorem K_meets {μ : p_M} (h : Core μ) (v1 v2 v3 v4 : Int32) : wp (F_L_meets 0 v1 v2 v3 v4 112 μ) fun k μ1 => wp (F_X13_meets v1 v2 v3 v4 μ1) fun b μ2 => Qz k b μ μ2 := by
  obtain ⟨hS, hT, hCl, hQ, hK, hW, hG, hH, hP, hL, hM⟩ := h
  refine wp_mono (A_meets hS hCl hQ v1 v2 v3 v4) fun k μ1 h1 => wp_mono h1 fun b μ2 h2 => ?_
  obtain ⟨⟨p1, p2, c⟩, g, f⟩ := h2
  exact ⟨p1, p2, Nx_fr f c ⟨Sh_fr f hS, RText_fr f (by decide) hT, RCloth_fr f (by decide) hCl, RRec_fr f (by decide) hQ, RKinds_fr f (by decide) hK, RWater_fr f (by decide) hW, RGarm_fr f (by decide) hG, RHouse_fr f (by decide) hH, RPan_fr f (by decide) hP, RLots_fr f (by decide) (by decide) (by decide) (by rw [Fr_row f 0 (by decide)]) (fun j _ => by rw [Fr_row f 68 (by decide)]) (fun j _ => by rw [Fr_row f 69 (by decide), Fr_row f 70 (by decide)]; exact ⟨rfl, rfl⟩) (fun j hj => g j (Or.inl hj)) (fun j => by rw [Fr_row f 73 (by decide)]) hL, RMisc_fr f (by decide) hM⟩⟩
theorem K_cheapest {X : p_X} (hX : oX2 X) {μ : p_M} (h : Core μ) (v1 v2 v3 v4 v5 : Int32) : wp (F_L_cheapest X 0 v1 v2 v3 v4 v5 112 μ) fun k μ1 => wp (F_X13_cheapest v1 v2 v3 v4 v5 μ1) fun b μ2 => Qi k b μ μ2 := by
  obtain ⟨hS, hT, hCl, hQ, hK, hW, hG, hH, hP, hL, hM⟩ := h
  refine wp_mono (A_cheapest hX hS hCl v1 v2 v3 v4 v5) fun k μ1 h1 => wp_mono h1 fun b μ2 h2 => ?_
  obtain ⟨⟨p1, p2, c⟩, g, f⟩ := h2
  exact ⟨p1, p2, Nx_fr f c ⟨Sh_fr f hS, RText_fr f (by decide) hT, RCloth_fr f (by decide) hCl, RRec_fr f (by decide) hQ, RKinds_fr f (by decide) hK, RWater_fr f (by decide) hW, RGarm_fr f (by decide) hG, RHouse_fr f (by decide) hH, RPan_fr f (by decide) hP, RLots_fr f (by decide) (by decide) (by decide) (by rw [Fr_row f 0 (by decide)]) (fun j _ => by rw [Fr_row f 68 (by decide)]) (fun j _ => by rw [Fr_row f 69 (by decide), Fr_row f 70 (by decide)]; exact ⟨rfl, rfl⟩) (fun j hj => g j (by omega)) (fun j => by rw [Fr_row f 73 (by decide)]) hL, RMisc_fr f (by decide) hM⟩⟩
theorem K_bath {X : p_X} (hX : oX2 X) {μ : p_M} (h : Core μ) (v1 v2 v3 v4 v5 v6 : Int32) : wp (F_L_bath X 0 v1 v2 v3 v4 v5 v6 112 μ) fun k μ1 => wp (F_X13_bath v1 v2 v3 v4 v5 v6 μ1) fun b μ2 => Qi k b μ μ2 := by
  obtain ⟨hS, hT, hCl, hQ, hK, hW, hG, hH, hP, hL, hM⟩ := h
  refine wp_mono (A_bath hX hS hCl v1 v2 v3 v4 v5 v6) fun k μ1 h1 => wp_mono h1 fun b μ2 h2 => ?_
  obtain ⟨⟨p1, p2, c⟩, g, f⟩ := h2
  exact ⟨p1, p2, Nx_fr f c ⟨Sh_fr f hS, RText_fr f (by decide) hT, RCloth_fr f (by decide) hCl, RRec_fr f (by decide) hQ, RKinds_fr f (by decide) hK, RWater_fr f (by decide) hW, RGarm_fr f (by decide) hG, RHouse_fr f (by decide) hH, RPan_fr f (by decide) hP, RLots_fr f (by decide) (by decide) (by decide) (by rw [Fr_row f 0 (by decide)]) (fun j _ => by rw [Fr_row f 68 (by decide)]) (fun j _ => by rw [Fr_row f 69 (by decide), Fr_row f 70 (by decide)]; exact ⟨rfl, rfl⟩) (fun j hj => g j (by omega)) (fun j => by rw [Fr_row f 73 (by decide)]) hL, RMisc_fr f (by decide) hM⟩⟩
theorem K_machine {μ : p_M} (h : Core μ) (v1 : Int32) : wp (F_L_machine 0 v1 112 μ) fun k μ1 => wp (F_X13_machine v1 μ1) fun b μ2 => Qi k b μ μ2 := by
  obtain ⟨hS, hT, hCl, hQ, hK, hW, hG, hH, hP, hL, hM⟩ := h
  refine wp_mono (A_machine hS hL v1) fun k μ1 h1 => wp_mono h1 fun b μ2 h2 => ?_
  obtain ⟨⟨p1, p2, c⟩, r, g, f⟩ := h2
  exact ⟨p1, p2, Nx_fr f c ⟨Sh_fr f hS, RText_fr f (by decide) hT, RCloth_fr0 f (by decide) (g 2 (by decide)) hCl, RRec_fr f (by decide) hQ, RKinds_fr f (by decide) hK, RWater_fr f (by decide) hW, RGarm_fr f (by decide) hG, RHouse_fr f (by decide) hH, RPan_fr f (by decide) hP, r, RMisc_fr0 f (by decide) (g 15 (by decide)) (g 17 (by decide)) (g 18 (by decide)) hM⟩⟩
theorem K_load {μ : p_M} (h : Core μ) (v1 v2 : Int32) : wp (F_L_load 0 v1 v2 112 μ) fun k μ1 => wp (F_X13_load v1 v2 μ1) fun b μ2 => Qz k b μ μ2 := by
  obtain ⟨hS, hT, hCl, hQ, hK, hW, hG, hH, hP, hL, hM⟩ := h
  refine wp_mono (A_load hS hL v1 v2) fun k μ1 h1 => wp_mono h1 fun b μ2 h2 => ?_
  obtain ⟨⟨p1, p2, c⟩, r, f⟩ := h2
  have qhT : RText μ2 := (RText_fr (Fl_fr f) (by decide) hT : RText (star μ μ2))
  have qhCl : RCloth μ2 := (RCloth_fr (Fl_fr f) (by decide) hCl : RCloth (star μ μ2))
  have qhQ : RRec μ2 := (RRec_fr (Fl_fr f) (by decide) hQ : RRec (star μ μ2))
  have qhK : RKinds μ2 := (RKinds_fr (Fl_fr f) (by decide) hK : RKinds (star μ μ2))
  have qhW : RWater μ2 := (RWater_fr (Fl_fr f) (by decide) hW : RWater (star μ μ2))
  have qhG : RGarm μ2 := (RGarm_fr (Fl_fr f) (by decide) hG : RGarm (star μ μ2))
  have qhH : RHouse μ2 := (RHouse_fr (Fl_fr f) (by decide) hH : RHouse (star μ μ2))
  have qhP : RPan μ2 := (RPan_fr (Fl_fr f) (by decide) hP : RPan (star μ μ2))
  have qhM : RMisc μ2 := (RMisc_fr (Fl_fr f) (by decide) hM : RMisc (star μ μ2))
  exact ⟨p1, p2, ⟨Sh_fl f hS, qhT, qhCl, qhQ, qhK, qhW, qhG, qhH, qhP, r, qhM⟩, c, f.2.2.2.1.2⟩
theorem K_days {μ : p_M} (h : Core μ) (v1 : Int32) : wp (F_L_days 0 v1 112 μ) fun k μ1 => wp (F_X13_days v1 μ1) fun b μ2 => Qi k b μ μ2 := by
  obtain ⟨hS, hT, hCl, hQ, hK, hW, hG, hH, hP, hL, hM⟩ := h
  refine wp_mono (A_days hS hL hW hK hH hM v1) fun k μ1 h1 => wp_mono h1 fun b μ2 h2 => ?_
  obtain ⟨⟨p1, p2, c⟩, r, r2, r3, g, f⟩ := h2
  have qhT : RText μ2 := (RText_fr (Fl_fr f) (by decide) hT : RText (star μ μ2))
  have qhCl : RCloth μ2 := (RCloth_fr0 (Fl_fr f) (by decide) (g 2 (by decide)) hCl : RCloth (star μ μ2))
  have qhQ : RRec μ2 := (RRec_fr (Fl_fr f) (by decide) hQ : RRec (star μ μ2))
  have qhK : RKinds μ2 := (RKinds_fr (Fl_fr f) (by decide) hK : RKinds (star μ μ2))
  have qhG : RGarm μ2 := (RGarm_fr (Fl_fr f) (by decide) hG : RGarm (star μ μ2))
  have qhH : RHouse μ2 := (RHouse_fr (Fl_fr f) (by decide) hH : RHouse (star μ μ2))
  have qhP : RPan μ2 := (RPan_fr (Fl_fr f) (by decide) hP : RPan (star μ μ2))
  exact ⟨p1, p2, ⟨Sh_fl f hS, qhT, qhCl, qhQ, qhK, r2, qhG, qhH, qhP, r, r3⟩, c, f.2.2.2.1.2⟩
theorem K_measure {μ : p_M} (h : Core μ) (v1 v2 v3 : Int32) : wp (F_L_measure 0 v1 v2 v3 112 μ) fun k μ1 => wp (F_X13_measure v1 v2 v3 μ1) fun b μ2 => Qi k b μ μ2 := by
  obtain ⟨hS, hT, hCl, hQ, hK, hW, hG, hH, hP, hL, hM⟩ := h
  refine wp_mono (A_measure hS hL hM v1 v2 v3) fun k μ1 h1 => wp_mono h1 fun b μ2 h2 => ?_
  obtain ⟨⟨p1, p2, c⟩, r, f⟩ := h2
  have qhT : RText μ2 := (RText_fr (Fl_fr f) (by decide) hT : RText (star μ μ2))
  have qhCl : RCloth μ2 := (RCloth_fr (Fl_fr f) (by decide) hCl : RCloth (star μ μ2))
  have qhQ : RRec μ2 := (RRec_fr (Fl_fr f) (by decide) hQ : RRec (star μ μ2))
  have qhK : RKinds μ2 := (RKinds_fr (Fl_fr f) (by decide) hK : RKinds (star μ μ2))
  have qhW : RWater μ2 := (RWater_fr (Fl_fr f) (by decide) hW : RWater (star μ μ2))
  have qhG : RGarm μ2 := (RGarm_fr (Fl_fr f) (by decide) hG : RGarm (star μ μ2))
  have qhH : RHouse μ2 := (RHouse_fr (Fl_fr f) (by decide) hH : RHouse (star μ μ2))
  have qhP : RPan μ2 := (RPan_fr (Fl_fr f) (by decide) hP : RPan (star μ μ2))
  have qhM : RMisc μ2 := (RMisc_fr (Fl_fr f) (by decide) hM : RMisc (star μ μ2))
  exact ⟨p1, p2, ⟨Sh_fl f hS, qhT, qhCl, qhQ, qhK, qhW, qhG, qhH, qhP, r, qhM⟩, c, f.2.2.2.1.2⟩
theorem K_lot {μ : p_M} (h : Core μ) (hE : mN μ + 8 < p_E) (v1 v2 v3 v4 v5 v6 v7 : Int32) : wp (F_L_lot 0 v1 v2 v3 v4 v5 v6 v7 112 μ) fun k μ1 => wp (F_X13_lot v1 v2 v3 v4 v5 v6 v7 μ1) fun b μ2 => Qi k b μ μ2 := by
  obtain ⟨hS, hT, hCl, hQ, hK, hW, hG, hH, hP, hL, hM⟩ := h
  refine wp_mono (A_lot hS hE hL hCl hQ v1 v2 v3 v4 v5 v6 v7) fun k μ1 h1 => wp_mono h1 fun b μ2 h2 => ?_
  obtain ⟨⟨p1, p2, c⟩, r, g1, g2, f⟩ := h2
  have qhT : RText μ2 := (RText_fr (Fl_fr f) (by decide) hT : RText (star μ μ2))
  have qhCl : RCloth μ2 := (RCloth_fr (Fl_fr f) (by decide) hCl : RCloth (star μ μ2))
  have qhQ : RRec μ2 := (RRec_fr0 (Fl_fr f) (by decide) (g1 40 (by decide)) (fun j _ => g2 (800 + j) (by omega)) hQ : RRec (star μ μ2))
  have qhK : RKinds μ2 := (RKinds_fr (Fl_fr f) (by decide) hK : RKinds (star μ μ2))
  have qhW : RWater μ2 := (RWater_fr (Fl_fr f) (by decide) hW : RWater (star μ μ2))
  have qhG : RGarm μ2 := (RGarm_fr (Fl_fr f) (by decide) hG : RGarm (star μ μ2))
  have qhH : RHouse μ2 := (RHouse_fr (Fl_fr f) (by decide) hH : RHouse (star μ μ2))
  have qhP : RPan μ2 := (RPan_fr (Fl_fr f) (by decide) hP : RPan (star μ μ2))
  have qhM : RMisc μ2 := (RMisc_fr (Fl_fr f) (by decide) hM : RMisc (star μ μ2))
  exact ⟨p1, p2, ⟨Sh_fl f hS, qhT, qhCl, qhQ, qhK, qhW, qhG, qhH, qhP, r, qhM⟩, c, f.2.2.2.1.2⟩
theorem K_again {μ : p_M} (h : Core μ) (hE : mN μ + 8 < p_E) (v1 : Int32) : wp (F_L_again 0 v1 112 μ) fun k μ1 => wp (F_X13_again v1 μ1) fun b μ2 => Qi k b μ μ2 := by
  obtain ⟨hS, hT, hCl, hQ, hK, hW, hG, hH, hP, hL, hM⟩ := h
  refine wp_mono (A_again hS hE hL hCl hQ hH hM v1) fun k μ1 h1 => wp_mono h1 fun b μ2 h2 => ?_
  obtain ⟨⟨p1, p2, c⟩, r, g1, g2, f⟩ := h2
  have qhT : RText μ2 := (RText_fr (Fl_fr f) (by decide) hT : RText (star μ μ2))
  have qhCl : RCloth μ2 := (RCloth_fr (Fl_fr f) (by decide) hCl : RCloth (star μ μ2))
  have qhQ : RRec μ2 := (RRec_fr0 (Fl_fr f) (by decide) (g1 40 (by decide)) (fun j _ => g2 (800 + j) (by omega)) hQ : RRec (star μ μ2))
  have qhK : RKinds μ2 := (RKinds_fr (Fl_fr f) (by decide) hK : RKinds (star μ μ2))
  have qhW : RWater μ2 := (RWater_fr (Fl_fr f) (by decide) hW : RWater (star μ μ2))
  have qhG : RGarm μ2 := (RGarm_fr (Fl_fr f) (by decide) hG : RGarm (star μ μ2))
  have qhH : RHouse μ2 := (RHouse_fr (Fl_fr f) (by decide) hH : RHouse (star μ μ2))
  have qhP : RPan μ2 := (RPan_fr (Fl_fr f) (by decide) hP : RPan (star μ μ2))
  have qhM : RMisc μ2 := (RMisc_fr (Fl_fr f) (by decide) hM : RMisc (star μ μ2))
  exact ⟨p1, p2, ⟨Sh_fl f hS, qhT, qhCl, qhQ, qhK, qhW, qhG, qhH, qhP, r, qhM⟩, c, f.2.2.2.1.2⟩
theorem K_ready {μ : p_M} (h : Core μ) (v1 : Int32) : wp (F_L_ready 0 v1 112 μ) fun k μ1 => wp (F_X13_ready v1 μ1) fun b μ2 => Qi k b μ μ2 := by
  obtain ⟨hS, hT, hCl, hQ, hK, hW, hG, hH, hP, hL, hM⟩ := h
  refine wp_mono (A_ready hS hL hCl hH hM v1) fun k μ1 h1 => wp_mono h1 fun b μ2 h2 => ?_
  obtain ⟨⟨p1, p2, c⟩, r, r3, g, f⟩ := h2
  have qhT : RText μ2 := (RText_fr (Fl_fr f) (by decide) hT : RText (star μ μ2))
  have qhCl : RCloth μ2 := (RCloth_fr0 (Fl_fr f) (by decide) (g 2 (by decide) (by decide)) hCl : RCloth (star μ μ2))
  have qhQ : RRec μ2 := (RRec_fr (Fl_fr f) (by decide) hQ : RRec (star μ μ2))
  have qhK : RKinds μ2 := (RKinds_fr (Fl_fr f) (by decide) hK : RKinds (star μ μ2))
  have qhW : RWater μ2 := (RWater_fr (Fl_fr f) (by decide) hW : RWater (star μ μ2))
  have qhG : RGarm μ2 := (RGarm_fr (Fl_fr f) (by decide) hG : RGarm (star μ μ2))
  have qhH : RHouse μ2 := (RHouse_fr (Fl_fr f) (by decide) hH : RHouse (star μ μ2))
  have qhP : RPan μ2 := (RPan_fr (Fl_fr f) (by decide) hP : RPan (star μ μ2))
  exact ⟨p1, p2, ⟨Sh_fl f hS, qhT, qhCl, qhQ, qhK, qhW, qhG, qhH, qhP, r, r3⟩, c, f.2.2.2.1.2⟩
theorem K_deliver {μ : p_M} (h : Core μ) (v1 v2 : Int32) : wp (F_L_deliver 0 v1 v2 112 μ) fun k μ1 => wp (F_X13_deliver v1 v2 μ1) fun b μ2 => Qi k b μ μ2 := by
  obtain ⟨hS, hT, hCl, hQ, hK, hW, hG, hH, hP, hL, hM⟩ := h
  refine wp_mono (A_deliver hS hL hCl hH hM v1 v2) fun k μ1 h1 => wp_mono h1 fun b μ2 h2 => ?_
  obtain ⟨⟨p1, p2, c⟩, r, r3, g, f⟩ := h2
  have qhT : RText μ2 := (RText_fr (Fl_fr f) (by decide) hT : RText (star μ μ2))
  have qhCl : RCloth μ2 := (RCloth_fr0 (Fl_fr f) (by decide) (g 2 (by decide) (by decide)) hCl : RCloth (star μ μ2))
  have qhQ : RRec μ2 := (RRec_fr (Fl_fr f) (by decide) hQ : RRec (star μ μ2))
  have qhK : RKinds μ2 := (RKinds_fr (Fl_fr f) (by decide) hK : RKinds (star μ μ2))
  have qhW : RWater μ2 := (RWater_fr (Fl_fr f) (by decide) hW : RWater (star μ μ2))
  have qhG : RGarm μ2 := (RGarm_fr (Fl_fr f) (by decide) hG : RGarm (star μ μ2))
  have qhH : RHouse μ2 := (RHouse_fr (Fl_fr f) (by decide) hH : RHouse (star μ μ2))
  have qhP : RPan μ2 := (RPan_fr (Fl_fr f) (by decide) hP : RPan (star μ μ2))
  exact ⟨p1, p2, ⟨Sh_fl f hS, qhT, qhCl, qhQ, qhK, qhW, qhG, qhH, qhP, r, r3⟩, c, f.2.2.2.1.2⟩
theorem K_cloth {μ : p_M} (h : Core μ) (v1 v2 v3 : Int32) : wp (F_L_cloth 0 v1 v2 v3 112 μ) fun k μ1 => wp (F_X13_cloth v1 v2 v3 μ1) fun b μ2 => Qi k b μ μ2 := by
  obtain ⟨hS, hT, hCl, hQ, hK, hW, hG, hH, hP, hL, hM⟩ := h
  refine wp_mono (wp_and (A_cloth hS hCl v1 v2 v3) (B_cloth hS hCl v1 v2 v3)) fun k μ1 h1 => wp_mono (wp_and h1.1 h1.2) fun b μ2 h2 => ?_
  obtain ⟨⟨⟨p1, p2, c⟩, r, g, f⟩, q⟩ := h2
  have hL2 : RLots μ2 := RLots_g hL (fun C hC1 hC2 => ⟨Ag_fr f (by decide) (by decide) (fun j _ => by rw [Fr_row f 68 (by decide)]) (fun j _ => by rw [Fr_row f 69 (by decide), Fr_row f 70 (by decide)]; exact ⟨rfl, rfl⟩) (fun j _ => by rw [Fr_row f 74 (by decide)]) (q C hC1 hC2).1, (q C hC1 hC2).2⟩) (by rw [f.1]) (g 13 (by decide)) (fun a ha => Fr_row f a ((show ∀ a, a ∈ gRows → a ≠ 65 ∧ [0, 51, 52, 53, 54, 55, 56, 71, 72, 73].contains a = false by decide) a ha)) (fun k hk => Fr_sc f k ((show ∀ k, k ∈ [47, 62, 63, 69, 70] → [0, 14].contains k = false by decide) k hk))
  exact ⟨p1, p2, Nx_fr f c ⟨Sh_fr f hS, RText_fr f (by decide) hT, r, RRec_fr f (by decide) hQ, RKinds_fr f (by decide) hK, RWater_fr f (by decide) hW, RGarm_fr f (by decide) hG, RHouse_fr f (by decide) hH, RPan_fr f (by decide) hP, hL2, RMisc_fr0 f (by decide) (g 15 (by decide)) (g 17 (by decide)) (g 18 (by decide)) hM⟩⟩
theorem RHouse_of2 {cs ss : List Nat} {μ μ' : p_M} {R : Nat → Nat → Option Nat} (e1 : mR μ' 0 5 = mR μ 0 5) (e2 : mR μ' 0 6 = mR μ 0 6) (f : Fr cs ss μ (μ'.1, R, μ'.2.2)) (d : dj cs ss [10, 11, 12, 13, 84] [41] = true) (h : RHouse μ) : RHouse μ' := by
  have a1 : mI μ' 10 = mI μ 10 := Fr_row f 10 (dj1 d (by decide))
  have a2 : mI μ' 11 = mI μ 11 := Fr_row f 11 (dj1 d (by decide))
  have a3 : mI μ' 12 = mI μ 12 := Fr_row f 12 (dj1 d (by decide))
  have a4 : mI μ' 13 = mI μ 13 := Fr_row f 13 (dj1 d (by decide))
  have a5 : mI μ' 84 = mI μ 84 := Fr_row f 84 (dj1 d (by decide))
  have a6 : mI μ' 65 41 = mI μ 65 41 := Fr_sc f 41 (dj2 d (by decide))
  unfold RHouse at *
  rw [e1, e2, a1, a2, a3, a4, a5, a6]
  exact h
theorem RRec_of2 {cs ss : List Nat} {μ μ' : p_M} {R : Nat → Nat → Option Nat} (e1 : mR μ' 0 3 = mR μ 0 3) (e2 : mR μ' 0 4 = mR μ 0 4) (f : Fr cs ss μ (μ'.1, R, μ'.2.2)) (d : dj cs ss [4, 5, 6, 7, 8, 9, 68, 69, 70] [] = true) (h : RRec μ) : RRec μ' := by
  have a1 : mI μ' 4 = mI μ 4 := Fr_row f 4 (dj1 d (by decide))
  have a2 : mI μ' 5 = mI μ 5 := Fr_row f 5 (dj1 d (by decide))
  have a3 : mI μ' 6 = mI μ 6 := Fr_row f 6 (dj1 d (by decide))
  have a4 : mI μ' 7 = mI μ 7 := Fr_row f 7 (dj1 d (by decide))
  have a5 : mI μ' 8 = mI μ 8 := Fr_row f 8 (dj1 d (by decide))
  have a6 : mI μ' 9 = mI μ 9 := Fr_row f 9 (dj1 d (by decide))
  have b1 : mI μ' 68 = mI μ 68 := Fr_row f 68 (dj1 d (by decide))
  have b2 : mI μ' 69 = mI μ 69 := Fr_row f 69 (dj1 d (by decide))
  have b3 : mI μ' 70 = mI μ 70 := Fr_row f 70 (dj1 d (by decide))
  unfold RRec at *
  rw [e1, e2, a1, a2, a3, a4, a5, a6, b1, b2, b3]
  exact h
theorem K_recipe {μ : p_M} (h : Core μ) : wp (F_L_recipe 0 112 μ) fun k μ1 => wp (F_X13_recipe μ1) fun b μ2 => Qi k b μ μ2 := by
  obtain ⟨hS, hT, hCl, hQ, hK, hW, hG, hH, hP, hL, hM⟩ := h
  refine wp_mono (A_recipe hS hT hQ) fun k μ1 h1 => wp_mono h1 fun b μ2 h2 => ?_
  obtain ⟨⟨p1, p2, c⟩, r, r2, g1, g2, f⟩ := h2
  have rA : ∀ a, a ≠ 0 → mR μ2 a = mR μ a := fun a ha => funext fun k => f.1 a k (fun e => ha e.1)
  have ag : ∀ C, Ag μ μ2 C := fun C => ⟨fun a ha => ⟨rA a (by omega), by rw [f.2.1], by rw [f.2.2.1], f.2.2.2.2.1 a (by omega) (fun hm => by have := (show ∀ a, a ∈ rC → a < 113 by decide) a hm; omega)⟩, by rw [f.2.2.2.1]; exact Nat.le_refl _, g1, g2, fun k _ => by rw [f.2.2.2.2.1 74 (by decide) (by decide)], fun c _ => by rw [f.2.2.2.2.1 73 (by decide) (by decide)], fun a h1 h2 => f.2.2.2.2.1 a (by omega) (fun hm => by have := (show ∀ a, a ∈ rC → a < 89 by decide) a hm; omega)⟩
  have qhL : RLots μ2 := RLots_g hL (fun C hC1 hC2 => ⟨ag C, C, Nat.le_refl _, hC2, (Fr_sc (Mv_fr f) 14 (by decide)).trans hC1⟩) (rA 37 (by decide)) (by rw [f.2.2.2.2.1 0 (by decide) (by decide)]) (fun a ha => Fr_row (Mv_fr f) a ((show ∀ a, a ∈ gRows → a ≠ 65 ∧ (rC).contains a = false by decide) a ha)) (fun k hk => Fr_sc (Mv_fr f) k ((show ∀ k, k ∈ [47, 62, 63, 69, 70] → (rS).contains k = false by decide) k hk))
  have qhCl : RCloth μ2 := (RCloth_fr (Mv_fr f) (by decide) hCl : RCloth (μ2.1, μ.2.1, μ2.2.2))
  have qhK : RKinds μ2 := (RKinds_fr (Mv_fr f) (by decide) hK : RKinds (μ2.1, μ.2.1, μ2.2.2))
  have qhW : RWater μ2 := (RWater_fr (Mv_fr f) (by decide) hW : RWater (μ2.1, μ.2.1, μ2.2.2))
  have qhG : RGarm μ2 := (RGarm_fr (Mv_fr f) (by decide) hG : RGarm (μ2.1, μ.2.1, μ2.2.2))
  have qhH : RHouse μ2 := RHouse_of2 (f.1 0 5 (by decide)) (f.1 0 6 (by decide)) (Mv_fr f) (by decide) hH
  have qhP : RPan μ2 := (RPan_fr (Mv_fr f) (by decide) hP : RPan (μ2.1, μ.2.1, μ2.2.2))
  have qhM : RMisc μ2 := (RMisc_fr (Mv_fr f) (by decide) hM : RMisc (μ2.1, μ.2.1, μ2.2.2))
  exact ⟨p1, p2, ⟨Sh_mv (Or.inl rfl) f hS, r, qhCl, r2, qhK, qhW, qhG, qhH, qhP, qhL, qhM⟩, c, by rw [f.2.2.2.1]; exact Nat.le_add_right _ _⟩
theorem K_house {X : p_X} (hX : oX1 X) {μ : p_M} (h : Core μ) : wp (F_L_house X 0 112 μ) fun k μ1 => wp (F_X13_house μ1) fun b μ2 => Qi k b μ μ2 := by
  obtain ⟨hS, hT, hCl, hQ, hK, hW, hG, hH, hP, hL, hM⟩ := h
  refine wp_mono (A_house hX hS hT hH) fun k μ1 h1 => wp_mono h1 fun b μ2 h2 => ?_
  obtain ⟨⟨p1, p2, c⟩, r, r2, f⟩ := h2
  have rA : ∀ a, a ≠ 0 → mR μ2 a = mR μ a := fun a ha => funext fun k => f.1 a k (fun e => ha e.1)
  have ag : ∀ C, Ag μ μ2 C := fun C => ⟨fun a ha => ⟨rA a (by omega), by rw [f.2.1], by rw [f.2.2.1], f.2.2.2.2.1 a (by omega) (fun hm => by have := (show ∀ a, a ∈ hC → a < 113 by decide) a hm; omega)⟩, by rw [f.2.2.2.1]; exact Nat.le_refl _, fun j _ => by rw [f.2.2.2.2.1 68 (by decide) (by decide)], fun j _ => by rw [f.2.2.2.2.1 69 (by decide) (by decide), f.2.2.2.2.1 70 (by decide) (by decide)]; exact ⟨rfl, rfl⟩, fun k _ => by rw [f.2.2.2.2.1 74 (by decide) (by decide)], fun c _ => by rw [f.2.2.2.2.1 73 (by decide) (by decide)], fun a h1 h2 => f.2.2.2.2.1 a (by omega) (fun hm => by have := (show ∀ a, a ∈ hC → a < 89 by decide) a hm; omega)⟩
  have qhL : RLots μ2 := RLots_g hL (fun C hC1 hC2 => ⟨ag C, C, Nat.le_refl _, hC2, (Fr_sc (Mv_fr f) 14 (by decide)).trans hC1⟩) (rA 37 (by decide)) (by rw [f.2.2.2.2.1 0 (by decide) (by decide)]) (fun a ha => Fr_row (Mv_fr f) a ((show ∀ a, a ∈ gRows → a ≠ 65 ∧ (hC).contains a = false by decide) a ha)) (fun k hk => Fr_sc (Mv_fr f) k ((show ∀ k, k ∈ [47, 62, 63, 69, 70] → (hSS).contains k = false by decide) k hk))
  have qhCl : RCloth μ2 := (RCloth_fr (Mv_fr f) (by decide) hCl : RCloth (μ2.1, μ.2.1, μ2.2.2))
  have qhQ : RRec μ2 := RRec_of2 (f.1 0 3 (by decide)) (f.1 0 4 (by decide)) (Mv_fr f) (by decide) hQ
  have qhK : RKinds μ2 := (RKinds_fr (Mv_fr f) (by decide) hK : RKinds (μ2.1, μ.2.1, μ2.2.2))
  have qhW : RWater μ2 := (RWater_fr (Mv_fr f) (by decide) hW : RWater (μ2.1, μ.2.1, μ2.2.2))
  have qhG : RGarm μ2 := (RGarm_fr (Mv_fr f) (by decide) hG : RGarm (μ2.1, μ.2.1, μ2.2.2))
  have qhP : RPan μ2 := (RPan_fr (Mv_fr f) (by decide) hP : RPan (μ2.1, μ.2.1, μ2.2.2))
  have qhM : RMisc μ2 := (RMisc_fr (Mv_fr f) (by decide) hM : RMisc (μ2.1, μ.2.1, μ2.2.2))
  exact ⟨p1, p2, ⟨Sh_mv (Or.inr rfl) f hS, r, qhCl, qhQ, qhK, qhW, qhG, r2, qhP, qhL, qhM⟩, c, by rw [f.2.2.2.1]; exact Nat.le_add_right _ _⟩
