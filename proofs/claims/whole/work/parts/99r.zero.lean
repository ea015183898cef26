/-! everything holds at the start -/
set_option maxRecDepth 100000 in
set_option maxHeartbeats 4000000 in
theorem z_r2 : mI mZ 2 = mI mZ 66 := rfl
set_option maxRecDepth 100000 in
set_option maxHeartbeats 4000000 in
theorem z_r27 : mI mZ 27 = mI mZ 77 := rfl
set_option maxRecDepth 100000 in
set_option maxHeartbeats 4000000 in
theorem z_r28 : mI mZ 28 = mI mZ 78 := rfl
set_option maxRecDepth 100000 in
set_option maxHeartbeats 4000000 in
theorem z_r31 : mI mZ 31 = mI mZ 80 := rfl
set_option maxRecDepth 100000 in
set_option maxHeartbeats 4000000 in
theorem z_r32 : mI mZ 32 = mI mZ 81 := rfl
set_option maxRecDepth 100000 in
set_option maxHeartbeats 4000000 in
theorem z_r33 : mI mZ 33 = mI mZ 82 := rfl
set_option maxRecDepth 100000 in
set_option maxHeartbeats 4000000 in
theorem z_r35 : mI mZ 35 = mI mZ 83 := rfl
set_option maxRecDepth 100000 in
set_option maxHeartbeats 4000000 in
theorem z_r47 : mI mZ 47 = mI mZ 110 := rfl
theorem z_Sh : Sh mZ := by
  have c := z_ct
  refine ⟨⟨z_Sh1.1, ?_, ?_, fun k h1 h2 => ?_⟩, ?_, ?_, z_Sh2.1, z_Sh3, z_Sh2.2.1, z_Sh2.2.2⟩
  · rw [c.1]; decide
  · rw [c.1]; decide
  · rw [c.1]; exact z_Sh1.2 k h1 h2
  · rw [c.1]; decide
  · rw [c.1]; decide
theorem z_Text : RText mZ := ⟨z_r2, by decide +kernel, 0, by decide, by decide +kernel, by decide +kernel⟩
theorem z_Cloth : RCloth mZ := ⟨0, by decide, by decide +kernel, by decide +kernel, fun j hj => absurd hj (Nat.not_lt_zero j)⟩
theorem z_Rec : RRec mZ := ⟨0, by decide, by decide +kernel, Or.inl ⟨by decide +kernel, by decide +kernel, by decide +kernel, fun j hj => absurd hj (Nat.not_lt_zero j)⟩⟩
theorem z_K27 : ∀ j, j < 36 → mI mZ 27 j = nI 0 := by decide +kernel
theorem z_Kinds : RKinds mZ := ⟨z_r27, fun j hj => Or.inr ⟨0, by decide, z_K27 j hj⟩, 0, by decide, by decide +kernel, by decide +kernel, z_r28, fun j hj => absurd hj (Nat.not_lt_zero j)⟩
theorem z_W5 : ∀ j, j < 5 → mI mZ 32 j = nI 0 ∧ mI mZ 31 j = nI 0 := by decide +kernel
theorem z_W : mI mZ 30 3 = nI 0 ∧ mI mZ 65 30 = nI 0 ∧ mI mZ 30 4 = mI mZ 65 31 ∧ mI mZ 30 6 = mI mZ 65 32 ∧ mI mZ 30 7 = mI mZ 65 33 ∧ mI mZ 30 8 = mI mZ 65 34 := by decide +kernel
theorem z_Water : RWater mZ := ⟨0, by decide, z_W.1, z_W.2.1, z_r31, z_r32, z_r33, z_W.2.2.1, z_W.2.2.2.1, z_W.2.2.2.2.1, z_W.2.2.2.2.2, fun j hj => ⟨0, 0, (z_W5 j hj).1, (z_W5 j hj).2, by decide, by decide, fun _ => rfl⟩⟩
theorem z_Garm : RGarm mZ := ⟨0, by decide, by decide +kernel, by decide +kernel, z_r35, fun j hj => absurd hj (Nat.not_lt_zero j)⟩
theorem z_P : mI mZ 46 1 = nI 1 ∧ mI mZ 65 76 = nI 1 ∧ mI mZ 46 2 = nI 1 ∧ mI mZ 65 77 = nI 1 := by decide +kernel
theorem z_Pan : RPan mZ := ⟨⟨1, 1, by decide, by decide, by decide, by decide, z_P.1, z_P.2.1, z_P.2.2.1, z_P.2.2.2⟩, z_r47, by decide +kernel⟩
theorem z_Misc : RMisc mZ := ⟨⟨0, by decide, by decide +kernel, by decide +kernel⟩, by decide +kernel, by decide +kernel⟩
theorem z_H : (∀ j, j < 18 → mI mZ 11 j = mI mZ 84 j) ∧ (∀ j, j < 18 → mI mZ 84 j = at0 j) ∧ mI mZ 10 1 = nI 0 ∧ mI mZ 65 41 = nI 0 ∧ mR mZ 0 5 = some 10 ∧ mR mZ 0 6 = some 12 := by decide +kernel
theorem z_L : mI mZ 37 2 = nI 0 ∧ mI mZ 65 62 = nI 0 ∧ mR mZ 37 1 = some (p_E + 3) ∧ mI mZ 65 14 = nI 0 ∧ mI mZ 0 13 = nI 0 ∧ mI mZ 65 47 = nI 0 ∧ mI mZ 38 3 = nI 0 ∧ mI mZ 65 69 = nI 0 ∧ mI mZ 38 4 = mI mZ 65 70 ∧ mI mZ 65 63 = nI 0 := by decide +kernel
theorem z_L2 : ∀ i, i < 4 → mI mZ (57 + 2 * i) 2 = 0 ∧ mI mZ (57 + 2 * i) 3 = -1 ∧ mI mZ (57 + 2 * i) 4 = -1 ∧ mI mZ (57 + 2 * i) 5 = 0 ∧ mI mZ 88 i = 0 := by decide +kernel
theorem z_L3 : ∀ j, j < 40 → mI mZ 96 j = 0 ∧ mI mZ 98 j = 0 ∧ mI mZ 101 j = 0 := by decide +kernel
theorem z_L4 : ∀ j, j < 2400 → mI mZ 103 j = 0 := by decide +kernel
theorem z_Lots : RLots mZ := by
  obtain ⟨h1, h2, h3, h4, h5, h6, h7, h8, h9, h10⟩ := z_L
  refine ⟨0, 0, 0, 0, 0, fun _ => 0, ⟨h1, h2, by decide, Or.inl ⟨rfl, h3⟩, fun i j _ h => absurd h (Nat.not_lt_zero j), fun j h => absurd h (Nat.not_lt_zero j)⟩, ⟨h4, by decide⟩, ⟨h5, h6, by decide⟩, fun j h => absurd h (Nat.not_lt_zero j), fun j h => absurd h (Nat.not_lt_zero j), fun i _ h => z_L2 i h, ⟨fun j _ h => z_L3 j h, fun k _ h => z_L4 k h⟩, ⟨by decide, h7, h8, h9, fun m h => absurd h (Nat.not_lt_zero m)⟩, ⟨h10, fun j h => absurd h (Nat.not_lt_zero j)⟩⟩
theorem z_House : RHouse mZ := by
  obtain ⟨h1, h2, h3, h4, h5, h6⟩ := z_H
  refine Or.inl ⟨h5, h6, h1, ⟨fun j hj => ⟨0, by decide, ?_⟩, fun j hj => Or.inl ?_, ⟨5, by decide, by decide, (h2 8 (by decide)).trans (by decide)⟩, fun j hj => ?_, ⟨0, by decide, (h2 13 (by decide)).trans (by decide)⟩, ⟨0, by decide, (h2 14 (by decide)).trans (by decide)⟩, ⟨1, by decide, by decide, (h2 15 (by decide)).trans (by decide)⟩, ⟨5, by decide, by decide, (h2 16 (by decide)).trans (by decide)⟩, ⟨4, by decide, (h2 17 (by decide)).trans (by decide)⟩⟩, 0, by decide, h3, h4⟩
  · rw [h2 j (by omega)]
    exact (show ∀ j, j < 4 → at0 j = nI 0 by decide) j hj
  · rw [h2 (4 + j) (by omega)]
    exact (show ∀ j, j < 4 → at0 (4 + j) = -1 by decide) j hj
  · match j, hj with
    | 0, _ => exact ⟨3, by decide, by decide, (h2 9 (by decide)).trans (by decide)⟩
    | 1, _ => exact ⟨4, by decide, by decide, (h2 10 (by decide)).trans (by decide)⟩
    | 2, _ => exact ⟨5, by decide, by decide, (h2 11 (by decide)).trans (by decide)⟩
    | 3, _ => exact ⟨4, by decide, by decide, (h2 12 (by decide)).trans (by decide)⟩
    | n + 4, h => exact absurd h (by omega)
theorem z_Core : Core mZ := ⟨z_Sh, z_Text, z_Cloth, z_Rec, z_Kinds, z_Water, z_Garm, z_House, z_Pan, z_Lots, z_Misc⟩
theorem F_X1_init_X {X : p_X} (h : X 1 = X1 1) (v : Nat) (μ : p_M) : F_X1_init X v μ = F_X1_init X1 v μ := by
  unfold F_X1_init s_cln
  rw [h]
theorem c197_X {X : p_X} : ∀ (n v0 : Nat) (v1 : Int32) (μ : p_M), F_X12_init_c197 X n v0 v1 μ = F_X12_init_c197 X1 n v0 v1 μ := by
  intro n
  induction n with
  | zero => intros; rfl
  | succ n ih => intros; simp only [F_X12_init_c197, ih]
theorem c170_X {X : p_X} : ∀ (n v0 : Nat) (v1 : Int32) (μ : p_M), F_X12_init_c170 X n v0 v1 μ = F_X12_init_c170 X1 n v0 v1 μ := by
  intro n
  induction n with
  | zero => intros; rfl
  | succ n ih => intros; simp only [F_X12_init_c170, ih, c197_X]
theorem F_X12_init_X {X : p_X} (h : X 1 = X1 1) (v : Nat) (μ : p_M) : F_X12_init X v μ = F_X12_init X1 v μ := by
  unfold F_X12_init
  simp only [F_X1_init_X h, c170_X]
