/-! the law's loop -/
theorem Nx_refl {μ : p_M} (h : Core μ) : Nx μ μ := ⟨h, ⟨Nat.le_add_right _ _, Nat.le_add_right _ _⟩, Nat.le_add_right _ _⟩
theorem lw_lt {n k : Nat} (hn : n ≤ 4096) (hk : k ≤ 513) (h : ¬ nI n - 8 < nI (8 * k)) : 8 * k + 8 ≤ n := by
  by_cases c : 8 ≤ n
  · obtain ⟨q, rfl⟩ := Nat.exists_eq_add_of_le c
    have e : nI (8 + q) - 8 = nI q := by
      have : nI (8 + q) = nI q + 8 := by rw [Nat.add_comm]; exact (nI_add q 8).symm
      rw [this]
      exact Int32.add_sub_cancel _ _
    rw [e] at h
    by_cases c2 : q < 8 * k
    · exact absurd (nI_lt c2 (by omega)) h
    · omega
  · refine absurd ?_ h
    have h1 : ∀ n, n < 8 → nI n - 8 < 0 := by decide
    have h2 := h1 n (by omega)
    have h3 : 0 ≤ nI (8 * k) := nI_pos' (by omega)
    rw [Int32.lt_iff_toInt_lt] at *
    rw [Int32.le_iff_toInt_le] at h3
    omega
theorem lw_ix {X : p_X} {n k : Nat} (hX : (X 0).1 = n) (hn : n ≤ 4096) (h : 8 * k + 8 ≤ n) : Ix X (nI (8 * k)) := by
  have g : ∀ j, j < 8 → ¬ nI (8 * k + j) < 0 ∧ (nI (8 * k + j)).toNatClampNeg < (X 0).1 := fun j hj => by
    rw [hX]
    exact ix_nI (by omega) (by omega)
  refine ⟨g 0 (by decide), ?_, ?_, ?_, ?_, ?_, ?_, ?_⟩
  · rw [show nI (8 * k) + 1 = nI (8 * k + 1) from nI_add _ 1]; exact g 1 (by decide)
  · rw [show nI (8 * k) + 2 = nI (8 * k + 2) from nI_add _ 2]; exact g 2 (by decide)
  · rw [show nI (8 * k) + 3 = nI (8 * k + 3) from nI_add _ 3]; exact g 3 (by decide)
  · rw [show nI (8 * k) + 4 = nI (8 * k + 4) from nI_add _ 4]; exact g 4 (by decide)
  · rw [show nI (8 * k) + 5 = nI (8 * k + 5) from nI_add _ 5]; exact g 5 (by decide)
  · rw [show nI (8 * k) + 6 = nI (8 * k + 6) from nI_add _ 6]; exact g 6 (by decide)
  · rw [show nI (8 * k) + 7 = nI (8 * k + 7) from nI_add _ 7]; exact g 7 (by decide)
theorem W_all {X : p_X} {d : Nat} {Q : p_R → Prop} {μ : p_M} {i : Int32} {u w : Value} (h : Core μ) (hE : mN μ + 8 < p_E) (hX1 : oX1 X) (hX2 : oX2 X) (hx : Ix X i) (K : lwK X d Q i μ) : p_Ev X (d + 16) M_L_law 33 (lwL i u w) [] μ Q := by
  refine e_aload_n dL_law_33 rfl ?_
  refine e_iload dL_law_34 rfl ?_
  refine e_ialX (k := 0) dL_law_36 (by decide) hx.1 ?_
  refine e_bipush (v := 63) dL_law_37 rfl ?_
  refine e_iand dL_law_39 ?_
  generalize (X 0).2 i.toNatClampNeg &&& 63 = c
  by_cases hc : c.toInt < 0 ∨ 41 < c.toInt
  · exact e_swD dL_law_40 hc 2839 ⟨by decide, by decide⟩ (K _ _ _ (Nx_refl h))
  · have c0 : ¬ c < 0 := fun e => hc (Or.inl (by rw [Int32.lt_iff_toInt_lt] at e; exact e))
    obtain ⟨j, hj, rfl⟩ := nI_of c0
    have hj2 : j < 42 := by
      rw [nI_toInt hj] at hc
      omega
    match j, hj2 with
    | 0, _ => exact e_swK (v := nI 0) dL_law_40 rfl (by decide) rfl 224 ⟨by decide, by decide⟩ (W_feed h hE hX1 hX2 hx K)
    | 1, _ => exact e_swK (v := nI 1) dL_law_40 rfl (by decide) rfl 297 ⟨by decide, by decide⟩ (W_end h hE hX1 hX2 hx K)
    | 2, _ => exact e_swK (v := nI 2) dL_law_40 rfl (by decide) rfl 322 ⟨by decide, by decide⟩ (W_cloth h hE hX1 hX2 hx K)
    | 3, _ => exact e_swK (v := nI 3) dL_law_40 rfl (by decide) rfl 402 ⟨by decide, by decide⟩ (W_recipe h hE hX1 hX2 hx K)
    | 4, _ => exact e_swK (v := nI 4) dL_law_40 rfl (by decide) rfl 446 ⟨by decide, by decide⟩ (W_fault h hE hX1 hX2 hx K)
    | 5, _ => exact e_swK (v := nI 5) dL_law_40 rfl (by decide) rfl 459 ⟨by decide, by decide⟩ (W_look h hE hX1 hX2 hx K)
    | 6, _ => exact e_swK (v := nI 6) dL_law_40 rfl (by decide) rfl 539 ⟨by decide, by decide⟩ (W_cost h hE hX1 hX2 hx K)
    | 7, _ => exact e_swK (v := nI 7) dL_law_40 rfl (by decide) rfl 552 ⟨by decide, by decide⟩ (W_meets h hE hX1 hX2 hx K)
    | 8, _ => exact e_swK (v := nI 8) dL_law_40 rfl (by decide) rfl 651 ⟨by decide, by decide⟩ (W_cheapest h hE hX1 hX2 hx K)
    | 9, _ => exact e_swK (v := nI 9) dL_law_40 rfl (by decide) rfl 755 ⟨by decide, by decide⟩ (W_bath h hE hX1 hX2 hx K)
    | 10, _ => exact e_swK (v := nI 10) dL_law_40 rfl (by decide) rfl 873 ⟨by decide, by decide⟩ (W_carry h hE hX1 hX2 hx K)
    | 11, _ => exact e_swK (v := nI 11) dL_law_40 rfl (by decide) rfl 933 ⟨by decide, by decide⟩ (W_batch h hE hX1 hX2 hx K)
    | 12, _ => exact e_swK (v := nI 12) dL_law_40 rfl (by decide) rfl 989 ⟨by decide, by decide⟩ (W_order h hE hX1 hX2 hx K)
    | 13, _ => exact e_swK (v := nI 13) dL_law_40 rfl (by decide) rfl 1002 ⟨by decide, by decide⟩ (W_clear h hE hX1 hX2 hx K)
    | 14, _ => exact e_swK (v := nI 14) dL_law_40 rfl (by decide) rfl 1015 ⟨by decide, by decide⟩ (W_tank h hE hX1 hX2 hx K)
    | 15, _ => exact e_swK (v := nI 15) dL_law_40 rfl (by decide) rfl 1071 ⟨by decide, by decide⟩ (W_draw h hE hX1 hX2 hx K)
    | 16, _ => exact e_swK (v := nI 16) dL_law_40 rfl (by decide) rfl 1139 ⟨by decide, by decide⟩ (W_pour h hE hX1 hX2 hx K)
    | 17, _ => exact e_swK (v := nI 17) dL_law_40 rfl (by decide) rfl 1219 ⟨by decide, by decide⟩ (W_has h hE hX1 hX2 hx K)
    | 18, _ => exact e_swK (v := nI 18) dL_law_40 rfl (by decide) rfl 1287 ⟨by decide, by decide⟩ (W_garment h hE hX1 hX2 hx K)
    | 19, _ => exact e_swK (v := nI 19) dL_law_40 rfl (by decide) rfl 1343 ⟨by decide, by decide⟩ (W_spread h hE hX1 hX2 hx K)
    | 20, _ => exact e_swK (v := nI 20) dL_law_40 rfl (by decide) rfl 1399 ⟨by decide, by decide⟩ (W_packs h hE hX1 hX2 hx K)
    | 21, _ => exact e_swK (v := nI 21) dL_law_40 rfl (by decide) rfl 1495 ⟨by decide, by decide⟩ (W_house h hE hX1 hX2 hx K)
    | 22, _ => exact e_swK (v := nI 22) dL_law_40 rfl (by decide) rfl 1539 ⟨by decide, by decide⟩ (W_tells h hE hX1 hX2 hx K)
    | 23, _ => exact e_swK (v := nI 23) dL_law_40 rfl (by decide) rfl 1595 ⟨by decide, by decide⟩ (W_machine h hE hX1 hX2 hx K)
    | 24, _ => exact e_swK (v := nI 24) dL_law_40 rfl (by decide) rfl 1651 ⟨by decide, by decide⟩ (W_lot h hE hX1 hX2 hx K)
    | 25, _ => exact e_swK (v := nI 25) dL_law_40 rfl (by decide) rfl 1783 ⟨by decide, by decide⟩ (W_load h hE hX1 hX2 hx K)
    | 26, _ => exact e_swK (v := nI 26) dL_law_40 rfl (by decide) rfl 1858 ⟨by decide, by decide⟩ (W_days h hE hX1 hX2 hx K)
    | 27, _ => exact e_swK (v := nI 27) dL_law_40 rfl (by decide) rfl 1914 ⟨by decide, by decide⟩ (W_led h hE hX1 hX2 hx K)
    | 28, _ => exact e_swK (v := nI 28) dL_law_40 rfl (by decide) rfl 1982 ⟨by decide, by decide⟩ (W_works h hE hX1 hX2 hx K)
    | 29, _ => exact e_swK (v := nI 29) dL_law_40 rfl (by decide) rfl 2050 ⟨by decide, by decide⟩ (W_measure h hE hX1 hX2 hx K)
    | 30, _ => exact e_swK (v := nI 30) dL_law_40 rfl (by decide) rfl 2130 ⟨by decide, by decide⟩ (W_known h hE hX1 hX2 hx K)
    | 31, _ => exact e_swK (v := nI 31) dL_law_40 rfl (by decide) rfl 2210 ⟨by decide, by decide⟩ (W_sorted h hE hX1 hX2 hx K)
    | 32, _ => exact e_swK (v := nI 32) dL_law_40 rfl (by decide) rfl 2290 ⟨by decide, by decide⟩ (W_again h hE hX1 hX2 hx K)
    | 33, _ => exact e_swK (v := nI 33) dL_law_40 rfl (by decide) rfl 2346 ⟨by decide, by decide⟩ (W_deliver h hE hX1 hX2 hx K)
    | 34, _ => exact e_swK (v := nI 34) dL_law_40 rfl (by decide) rfl 2414 ⟨by decide, by decide⟩ (W_ready h hE hX1 hX2 hx K)
    | 35, _ => exact e_swK (v := nI 35) dL_law_40 rfl (by decide) rfl 2470 ⟨by decide, by decide⟩ (W_pattern h hE hX1 hX2 hx K)
    | 36, _ => exact e_swK (v := nI 36) dL_law_40 rfl (by decide) rfl 2518 ⟨by decide, by decide⟩ (W_heat h hE hX1 hX2 hx K)
    | 37, _ => exact e_swK (v := nI 37) dL_law_40 rfl (by decide) rfl 2605 ⟨by decide, by decide⟩ (W_burn h hE hX1 hX2 hx K)
    | 38, _ => exact e_swK (v := nI 38) dL_law_40 rfl (by decide) rfl 2665 ⟨by decide, by decide⟩ (W_burned h hE hX1 hX2 hx K)
    | 39, _ => exact e_swK (v := nI 39) dL_law_40 rfl (by decide) rfl 2745 ⟨by decide, by decide⟩ (W_seam h hE hX1 hX2 hx K)
    | 40, _ => exact e_swK (v := nI 40) dL_law_40 rfl (by decide) rfl 2801 ⟨by decide, by decide⟩ (W_shift h hE hX1 hX2 hx K)
    | 41, _ => exact e_swK (v := nI 41) dL_law_40 rfl (by decide) rfl 2814 ⟨by decide, by decide⟩ (W_count h hE hX1 hX2 hx K)
    | q + 42, e => exact absurd e (by omega)
theorem W_step {X : p_X} {d : Nat} {Q : p_R → Prop} (hX1 : oX1 X) (hX2 : oX2 X) {n k : Nat} (hX0 : (X 0).1 = n) (hn : n ≤ 4096) (hk : k ≤ 513) {u w : Value} {μ : p_M} (hC : Core μ) (hE : mN μ + 8 < p_E) (hQ : Q ((0, some (.int 1)), μ)) (hK : 8 * k + 8 ≤ n → ∀ u w μ', Nx μ μ' → p_Ev X (d + 16) M_L_law 23 (lwL (nI (8 * (k + 1))) u w) [] μ' Q) : p_Ev X (d + 16) M_L_law 23 (lwL (nI (8 * k)) u w) [] μ Q := by
  refine e_iload dL_law_23 rfl ?_
  refine e_aload_n dL_law_25 rfl ?_
  refine e_alenX (k := 0) dL_law_26 (by decide) ?_
  refine e_bipush (v := 8) dL_law_27 rfl ?_
  refine e_isub dL_law_29 ?_
  rw [hX0]
  refine e_ic_gt dL_law_30 2845 ⟨by decide, by decide⟩ (fun _ => ?_) (fun hlt => ?_)
  · refine e_iconst (v := 1) dL_law_2845 rfl ?_
    exact e_iretz dL_law_2846 rfl (Or.inr rfl) hQ
  · have h8 := lw_lt hn hk hlt
    refine W_all hC hE hX1 hX2 (lw_ix hX0 hn h8) (fun u w μ' hx => ?_)
    have hK' := hK h8 u w μ' hx
    have e8 : nI (8 * (k + 1)) = nI (8 * k) + 8 := (nI_add _ 8).symm
    rw [e8] at hK'
    refine e_iinc (v := 8) dL_law_2839 rfl rfl rfl ?_
    exact e_goto dL_law_2842 23 ⟨by decide, by decide⟩ hK'
theorem W_loop {X : p_X} {d : Nat} {Q : p_R → Prop} (hX1 : oX1 X) (hX2 : oX2 X) {n c0 s0 : Nat} (hX0 : (X 0).1 = n) (hn : n ≤ 4096) (hQ : ∀ μ', mC μ' ≤ c0 + 5130 → mS μ' ≤ s0 + 153900 → Q ((0, some (.int 1)), μ')) : ∀ (r k : Nat) (u w : Value) (μ : p_M), k + r = 513 → Core μ → mN μ ≤ 113 + 8 * k → mC μ ≤ c0 + 10 * k → mS μ ≤ s0 + 300 * k → p_Ev X (d + 16) M_L_law 23 (lwL (nI (8 * k)) u w) [] μ Q := by
  have pe : p_E = 1000000 := rfl
  intro r
  induction r with
  | zero =>
    intro k u w μ hr hC hN hc hs
    exact W_step hX1 hX2 hX0 hn (by omega) hC (by omega) (hQ μ (by omega) (by omega)) (fun h8 => absurd h8 (by omega))
  | succ r ih =>
    intro k u w μ hr hC hN hc hs
    refine W_step hX1 hX2 hX0 hn (by omega) hC (by omega) (hQ μ (by omega) (by omega)) (fun h8 u w μ' hx => ?_)
    obtain ⟨g1, ⟨g2, g2'⟩, g3⟩ := hx
    have e3 : s0 + 300 * (k + 1) = s0 + 300 * k + 300 := by rw [Nat.mul_succ, Nat.add_assoc]
    have g4 : mS μ' ≤ s0 + 300 * (k + 1) := by rw [e3]; exact Nat.le_trans g2' (Nat.add_le_add_right hs _)
    exact ih (k + 1) u w μ' (by omega) g1 (by omega) (by omega) g4
