/-! X10_placeAmong -/
def F_X10_placeAmong_c94 (K8 : Nat → Nat → Int32 → Int32 → Int32 → Int32 → p_M → Option (Int32 × p_M)) (v0 : Nat) (v1 : Nat) (v2 : Int32) (v3 : Int32) (v4 : Int32) (v5 : Int32) (μ : p_M) : Option (Int32 × p_M) :=
  K8 v0 v1 v2 v3 v4 (v5 + (1 : Int32)) μ
theorem E_X10_placeAmong_c94 {X : p_X} {d : Nat} {Q : p_R → Prop} {K8 : Nat → Nat → Int32 → Int32 → Int32 → Int32 → p_M → Option (Int32 × p_M)} (hK8 : ∀ (v0 : Nat) (v1 : Nat) (v2 : Int32) (v3 : Int32) (v4 : Int32) (v5 : Int32) (μ : p_M) (r : Int32 × p_M), K8 v0 v1 v2 v3 v4 v5 μ = some r → Q ((0, some (.int r.1)), r.2) → p_Ev X (d + 0) M_X10_placeAmong 8 [.ref v0, .ref v1, .int v2, .int v3, .int v4, .int v5] [] μ Q) {v0 : Nat} {v1 : Nat} {v2 : Int32} {v3 : Int32} {v4 : Int32} {v5 : Int32} {μ : p_M} {r : Int32 × p_M} (h : F_X10_placeAmong_c94 K8 v0 v1 v2 v3 v4 v5 μ = some r) (hQ : Q ((0, some (.int r.1)), r.2)) : p_Ev X (d + 0) M_X10_placeAmong 94 [.ref v0, .ref v1, .int v2, .int v3, .int v4, .int v5] [] μ Q := by
  unfold F_X10_placeAmong_c94 at h
  refine e_iinc (v := (1 : Int32)) dX10_placeAmong_94 rfl rfl rfl ?_
  refine e_goto dX10_placeAmong_97 8 (by decide) ?_
  exact hK8 _ _ _ _ _ _ _ _ h hQ
def F_X10_placeAmong_c91 (K8 : Nat → Nat → Int32 → Int32 → Int32 → Int32 → p_M → Option (Int32 × p_M)) (v0 : Nat) (v1 : Nat) (v2 : Int32) (v3 : Int32) (v5 : Int32) (μ : p_M) : Option (Int32 × p_M) :=
  F_X10_placeAmong_c94 K8 v0 v1 v2 v3 (-1) v5 μ
theorem E_X10_placeAmong_c91 {X : p_X} {d : Nat} {Q : p_R → Prop} {K8 : Nat → Nat → Int32 → Int32 → Int32 → Int32 → p_M → Option (Int32 × p_M)} (hK8 : ∀ (v0 : Nat) (v1 : Nat) (v2 : Int32) (v3 : Int32) (v4 : Int32) (v5 : Int32) (μ : p_M) (r : Int32 × p_M), K8 v0 v1 v2 v3 v4 v5 μ = some r → Q ((0, some (.int r.1)), r.2) → p_Ev X (d + 0) M_X10_placeAmong 8 [.ref v0, .ref v1, .int v2, .int v3, .int v4, .int v5] [] μ Q) {v0 : Nat} {v1 : Nat} {v2 : Int32} {v3 : Int32} {v5 : Int32} {w4 : Value} {μ : p_M} {r : Int32 × p_M} (h : F_X10_placeAmong_c91 K8 v0 v1 v2 v3 v5 μ = some r) (hQ : Q ((0, some (.int r.1)), r.2)) : p_Ev X (d + 0) M_X10_placeAmong 91 [.ref v0, .ref v1, .int v2, .int v3, w4, .int v5] [] μ Q := by
  unfold F_X10_placeAmong_c91 at h
  refine e_iconst (v := (-1)) dX10_placeAmong_91 rfl ?_
  refine e_istore dX10_placeAmong_92 (Nat.le_of_ble_eq_true rfl) rfl ?_
  exact E_X10_placeAmong_c94 hK8 h hQ
def F_X10_placeAmong_c116 (s0 : Int32) (μ : p_M) : Option (Int32 × p_M) :=
  some (s0, μ)
theorem E_X10_placeAmong_c116 {X : p_X} {d : Nat} {Q : p_R → Prop} {s0 : Int32} {w0 : Value} {w1 : Value} {w2 : Value} {w3 : Value} {w4 : Value} {w5 : Value} {μ : p_M} {r : Int32 × p_M} (h : F_X10_placeAmong_c116 s0 μ = some r) (hQ : Q ((0, some (.int r.1)), r.2)) : p_Ev X (d + 0) M_X10_placeAmong 116 [w0, w1, w2, w3, w4, w5] [.int s0] μ Q := by
  unfold F_X10_placeAmong_c116 at h
  cases h
  exact e_ireti dX10_placeAmong_116 rfl hQ
def F_X10_placeAmong_c8 : Nat → Nat → Nat → Int32 → Int32 → Int32 → Int32 → p_M → Option (Int32 × p_M)
  | 0, _, _, _, _, _, _, _ => none
  | n + 1, v0, v1, v2, v3, v4, v5, μ =>
    (tx_len v1).bind fun q1 =>
    if q1 ≤ v5
    then (p_ok (mK μ v0 = 11 ∧ v0 < mN μ)
      (if ¬ v4 = ((mI μ v0 2) - v2)
      then (F_X10_placeAmong_c116 (-1) μ)
      else (F_X10_placeAmong_c116 v3 μ)))
    else ((tx_at v1 v5).bind fun q3 =>
      if ¬ q3 = (32 : Int32)
      then (if v4 = (-1)
        then (F_X10_placeAmong_c91 (F_X10_placeAmong_c8 n) v0 v1 v2 v3 v5 μ)
        else (p_ok (mK μ v0 = 11 ∧ v0 < mN μ)
          (if (mI μ v0 2) ≤ (v2 + v4)
          then (F_X10_placeAmong_c91 (F_X10_placeAmong_c8 n) v0 v1 v2 v3 v5 μ)
          else ((mR μ v0 0).bind fun q5 =>
            p_ok (q5 < p_E ∧ mK μ q5 = 21 ∧ q5 < mN μ)
            (p_ok (¬ (v2 + v4) < 0 ∧ (v2 + v4).toNatClampNeg < mL μ q5)
            ((tx_at v1 v5).bind fun q8 =>
            if ¬ (mI μ q5 (v2 + v4).toNatClampNeg) = q8
            then (F_X10_placeAmong_c91 (F_X10_placeAmong_c8 n) v0 v1 v2 v3 v5 μ)
            else (F_X10_placeAmong_c94 (F_X10_placeAmong_c8 n) v0 v1 v2 v3 (v4 + (1 : Int32)) v5 μ)))))))
      else (p_ok (mK μ v0 = 11 ∧ v0 < mN μ)
        (if ¬ v4 = ((mI μ v0 2) - v2)
        then (F_X10_placeAmong_c94 (F_X10_placeAmong_c8 n) v0 v1 v2 (v3 + (1 : Int32)) (0 : Int32) v5 μ)
        else (some (v3, μ)))))
theorem E_X10_placeAmong_c8 {X : p_X} {d : Nat} {Q : p_R → Prop} : ∀ (n : Nat) (v0 : Nat) (v1 : Nat) (v2 : Int32) (v3 : Int32) (v4 : Int32) (v5 : Int32) (μ : p_M) (r : Int32 × p_M), F_X10_placeAmong_c8 n v0 v1 v2 v3 v4 v5 μ = some r → Q ((0, some (.int r.1)), r.2) → p_Ev X (d + 0) M_X10_placeAmong 8 [.ref v0, .ref v1, .int v2, .int v3, .int v4, .int v5] [] μ Q := by
  intro n
  induction n with
  | zero => intro v0 v1 v2 v3 v4 v5 μ r h hQ; rw [F_X10_placeAmong_c8] at h; cases h
  | succ n ih =>
    intro v0 v1 v2 v3 v4 v5 μ r h hQ
    rw [F_X10_placeAmong_c8] at h
    refine e_iload dX10_placeAmong_8 rfl ?_
    refine e_aload_n dX10_placeAmong_10 rfl ?_
    obtain ⟨q1, hq1, h⟩ := p_bd h
    refine e_txl dX10_placeAmong_11 rfl (Nat.le_of_ble_eq_true rfl) hq1 ?_
    refine e_ic_ge dX10_placeAmong_14 100 (by decide) (fun hc => ?_) (fun hc => ?_)
    · rw [if_pos hc] at h
      refine e_iload dX10_placeAmong_100 rfl ?_
      refine e_aload_n dX10_placeAmong_102 rfl ?_
      obtain ⟨h2, h⟩ := p_ok_some h
      refine e_getI dX10_placeAmong_103 rfl rfl h2.1 h2.2 ?_
      refine e_iload_n dX10_placeAmong_106 rfl ?_
      refine e_isub dX10_placeAmong_107 ?_
      refine e_ic_ne dX10_placeAmong_108 115 (by decide) (fun hc => ?_) (fun hc => ?_)
      · rw [if_pos hc] at h
        refine e_iconst (v := (-1)) dX10_placeAmong_115 rfl ?_
        exact E_X10_placeAmong_c116 h hQ
      · rw [if_neg hc] at h
        refine e_iload_n dX10_placeAmong_111 rfl ?_
        refine e_goto dX10_placeAmong_112 116 (by decide) ?_
        exact E_X10_placeAmong_c116 h hQ
    · rw [if_neg hc] at h
      refine e_aload_n dX10_placeAmong_17 rfl ?_
      refine e_iload dX10_placeAmong_18 rfl ?_
      obtain ⟨q3, hq3, h⟩ := p_bd h
      refine e_txc dX10_placeAmong_20 rfl (Nat.le_of_ble_eq_true rfl) hq3 ?_
      refine e_bipush (v := (32 : Int32)) dX10_placeAmong_23 rfl ?_
      refine e_ic_ne dX10_placeAmong_25 50 (by decide) (fun hc => ?_) (fun hc => ?_)
      · rw [if_pos hc] at h
        refine e_iload dX10_placeAmong_50 rfl ?_
        refine e_iconst (v := (-1)) dX10_placeAmong_52 rfl ?_
        refine e_ic_eq dX10_placeAmong_53 91 (by decide) (fun hc => ?_) (fun hc => ?_)
        · rw [if_pos hc] at h
          exact E_X10_placeAmong_c91 ih h hQ
        · rw [if_neg hc] at h
          refine e_iload_n dX10_placeAmong_56 rfl ?_
          refine e_iload dX10_placeAmong_57 rfl ?_
          refine e_iadd dX10_placeAmong_59 ?_
          refine e_aload_n dX10_placeAmong_60 rfl ?_
          obtain ⟨h4, h⟩ := p_ok_some h
          refine e_getI dX10_placeAmong_61 rfl rfl h4.1 h4.2 ?_
          refine e_ic_ge dX10_placeAmong_64 91 (by decide) (fun hc => ?_) (fun hc => ?_)
          · rw [if_pos hc] at h
            exact E_X10_placeAmong_c91 ih h hQ
          · rw [if_neg hc] at h
            refine e_aload_n dX10_placeAmong_67 rfl ?_
            obtain ⟨q5, hq5, h⟩ := p_bd h
            refine e_getR dX10_placeAmong_68 rfl rfl h4.1 h4.2 hq5 ?_
            refine e_iload_n dX10_placeAmong_71 rfl ?_
            refine e_iload dX10_placeAmong_72 rfl ?_
            refine e_iadd dX10_placeAmong_74 ?_
            obtain ⟨h6, h⟩ := p_ok_some h
            obtain ⟨h7, h⟩ := p_ok_some h
            refine e_baG dX10_placeAmong_75 h6 h7 ?_
            refine e_aload_n dX10_placeAmong_76 rfl ?_
            refine e_iload dX10_placeAmong_77 rfl ?_
            obtain ⟨q8, hq8, h⟩ := p_bd h
            refine e_txc dX10_placeAmong_79 rfl (Nat.le_of_ble_eq_true rfl) hq8 ?_
            refine e_ic_ne dX10_placeAmong_82 91 (by decide) (fun hc => ?_) (fun hc => ?_)
            · rw [if_pos hc] at h
              exact E_X10_placeAmong_c91 ih h hQ
            · rw [if_neg hc] at h
              refine e_iinc (v := (1 : Int32)) dX10_placeAmong_85 rfl rfl rfl ?_
              refine e_goto dX10_placeAmong_88 94 (by decide) ?_
              exact E_X10_placeAmong_c94 ih h hQ
      · rw [if_neg hc] at h
        refine e_iload dX10_placeAmong_28 rfl ?_
        refine e_aload_n dX10_placeAmong_30 rfl ?_
        obtain ⟨h9, h⟩ := p_ok_some h
        refine e_getI dX10_placeAmong_31 rfl rfl h9.1 h9.2 ?_
        refine e_iload_n dX10_placeAmong_34 rfl ?_
        refine e_isub dX10_placeAmong_35 ?_
        refine e_ic_ne dX10_placeAmong_36 41 (by decide) (fun hc => ?_) (fun hc => ?_)
        · rw [if_pos hc] at h
          refine e_iinc (v := (1 : Int32)) dX10_placeAmong_41 rfl rfl rfl ?_
          refine e_iconst (v := (0 : Int32)) dX10_placeAmong_44 rfl ?_
          refine e_istore dX10_placeAmong_45 (Nat.le_of_ble_eq_true rfl) rfl ?_
          refine e_goto dX10_placeAmong_47 94 (by decide) ?_
          exact E_X10_placeAmong_c94 ih h hQ
        · rw [if_neg hc] at h
          refine e_iload_n dX10_placeAmong_39 rfl ?_
          cases h
          exact e_ireti dX10_placeAmong_40 rfl hQ
def F_X10_placeAmong (v0 : Nat) (v1 : Nat) (v2 : Int32) (μ : p_M) : Option (Int32 × p_M) :=
  F_X10_placeAmong_c8 p_fu v0 v1 v2 (0 : Int32) (0 : Int32) (0 : Int32) μ
theorem E_X10_placeAmong {X : p_X} {d : Nat} {Q : p_R → Prop} {v0 : Nat} {v1 : Nat} {v2 : Int32} {μ : p_M} {r : Int32 × p_M} (h : F_X10_placeAmong v0 v1 v2 μ = some r) (hQ : Q ((0, some (.int r.1)), r.2)) : p_Ev X (d + 0) M_X10_placeAmong 0 [.ref v0, .ref v1, .int v2, .double 0, .double 0, .double 0] [] μ Q := by
  unfold F_X10_placeAmong at h
  refine e_iconst (v := (0 : Int32)) dX10_placeAmong_0 rfl ?_
  refine e_istore_n dX10_placeAmong_1 (Nat.le_of_ble_eq_true rfl) rfl ?_
  refine e_iconst (v := (0 : Int32)) dX10_placeAmong_2 rfl ?_
  refine e_istore dX10_placeAmong_3 (Nat.le_of_ble_eq_true rfl) rfl ?_
  refine e_iconst (v := (0 : Int32)) dX10_placeAmong_5 rfl ?_
  refine e_istore dX10_placeAmong_6 (Nat.le_of_ble_eq_true rfl) rfl ?_
  exact E_X10_placeAmong_c8 p_fu _ _ _ _ _ _ _ _ h hQ
/-! X10_pick -/
def F_X10_pick_c88 (v3 : Int32) (μ : p_M) : Option (Int32 × p_M) :=
  some (v3, μ)
theorem E_X10_pick_c88 {X : p_X} {d : Nat} {Q : p_R → Prop} {v3 : Int32} {w0 : Value} {w1 : Value} {w2 : Value} {μ : p_M} {r : Int32 × p_M} (h : F_X10_pick_c88 v3 μ = some r) (hQ : Q ((0, some (.int r.1)), r.2)) : p_Ev X (d + 1) M_X10_pick 88 [w0, w1, w2, .int v3] [] μ Q := by
  unfold F_X10_pick_c88 at h
  refine e_iload_n dX10_pick_88 rfl ?_
  cases h
  exact e_ireti dX10_pick_89 rfl hQ
def F_X10_pick_c71 (v0 : Nat) (v1 : Nat) (v2 : Int32) (μ : p_M) : Option (Int32 × p_M) :=
  p_ok (mK μ v0 = 11 ∧ v0 < mN μ)
  ((F_X10_placeAmong v0 v1 v2 μ).bind fun q9 =>
  if ¬ q9.1 = (-1)
  then (F_X10_pick_c88 q9.1 q9.2)
  else (p_ok (mK q9.2 v0 = 11 ∧ v0 < mN q9.2)
    ((F_X10_refuse v0 v2 q9.2).bind fun q11 =>
    F_X10_pick_c88 q9.1 q11.2)))
theorem E_X10_pick_c71 {X : p_X} {d : Nat} {Q : p_R → Prop} {v0 : Nat} {v1 : Nat} {v2 : Int32} {w3 : Value} {μ : p_M} {r : Int32 × p_M} (h : F_X10_pick_c71 v0 v1 v2 μ = some r) (hQ : Q ((0, some (.int r.1)), r.2)) : p_Ev X (d + 1) M_X10_pick 71 [.ref v0, .ref v1, .int v2, w3] [] μ Q := by
  unfold F_X10_pick_c71 at h
  refine e_aload_n dX10_pick_71 rfl ?_
  refine e_aload_n dX10_pick_72 rfl ?_
  refine e_iload_n dX10_pick_73 rfl ?_
  obtain ⟨h10, h⟩ := p_ok_some h
  obtain ⟨q9, hq9, h⟩ := p_bd h
  refine f_cVi dX10_pick_74 rfl rfl ⟨rfl, rfl, by decide⟩ rfl h10 (fun Q' hQ' => E_X10_placeAmong hq9 hQ') ?_
  refine e_istore_n dX10_pick_77 (Nat.le_of_ble_eq_true rfl) rfl ?_
  refine e_iload_n dX10_pick_78 rfl ?_
  refine e_iconst (v := (-1)) dX10_pick_79 rfl ?_
  refine e_ic_ne dX10_pick_80 88 (by decide) (fun hc => ?_) (fun hc => ?_)
  · rw [if_pos hc] at h
    exact E_X10_pick_c88 h hQ
  · rw [if_neg hc] at h
    refine e_aload_n dX10_pick_83 rfl ?_
    refine e_iload_n dX10_pick_84 rfl ?_
    obtain ⟨h12, h⟩ := p_ok_some h
    obtain ⟨q11, hq11, h⟩ := p_bd h
    refine f_cVv dX10_pick_85 rfl rfl ⟨rfl, rfl, by decide⟩ rfl h12 (fun Q' hQ' => E_X10_refuse hq11 hQ') ?_
    exact E_X10_pick_c88 h hQ
def F_X10_pick_c19 : Nat → Nat → Nat → Int32 → p_M → Option (Int32 × p_M)
  | 0, _, _, _, _ => none
  | n + 1, v0, v1, v2, μ =>
    p_ok (mK μ v0 = 11 ∧ v0 < mN μ)
    (if (mI μ v0 1) ≤ (mI μ v0 2)
    then (F_X10_pick_c71 v0 v1 v2 μ)
    else ((mR μ v0 0).bind fun q5 =>
      p_ok (q5 < p_E ∧ mK μ q5 = 21 ∧ q5 < mN μ)
      (p_ok (¬ (mI μ v0 2) < 0 ∧ (mI μ v0 2).toNatClampNeg < mL μ q5)
      (if (mI μ q5 (mI μ v0 2).toNatClampNeg) < (97 : Int32)
      then (F_X10_pick_c71 v0 v1 v2 μ)
      else (if (122 : Int32) < (mI μ q5 (mI μ v0 2).toNatClampNeg)
        then (F_X10_pick_c71 v0 v1 v2 μ)
        else (p_let (sI μ v0 2 ((mI μ v0 2) + (1 : Int32))) fun m8 =>
          F_X10_pick_c19 n v0 v1 v2 m8))))))
theorem E_X10_pick_c19 {X : p_X} {d : Nat} {Q : p_R → Prop} : ∀ (n : Nat) (v0 : Nat) (v1 : Nat) (v2 : Int32) (μ : p_M) (r : Int32 × p_M) (w3 : Value), F_X10_pick_c19 n v0 v1 v2 μ = some r → Q ((0, some (.int r.1)), r.2) → p_Ev X (d + 1) M_X10_pick 19 [.ref v0, .ref v1, .int v2, w3] [] μ Q := by
  intro n
  induction n with
  | zero => intro v0 v1 v2 μ r w3 h hQ; rw [F_X10_pick_c19] at h; cases h
  | succ n ih =>
    intro v0 v1 v2 μ r w3 h hQ
    rw [F_X10_pick_c19] at h
    refine e_aload_n dX10_pick_19 rfl ?_
    obtain ⟨h4, h⟩ := p_ok_some h
    refine e_getI dX10_pick_20 rfl rfl h4.1 h4.2 ?_
    refine e_aload_n dX10_pick_23 rfl ?_
    refine e_getI dX10_pick_24 rfl rfl h4.1 h4.2 ?_
    refine e_ic_ge dX10_pick_27 71 (by decide) (fun hc => ?_) (fun hc => ?_)
    · rw [if_pos hc] at h
      exact E_X10_pick_c71 h hQ
    · rw [if_neg hc] at h
      refine e_aload_n dX10_pick_30 rfl ?_
      obtain ⟨q5, hq5, h⟩ := p_bd h
      refine e_getR dX10_pick_31 rfl rfl h4.1 h4.2 hq5 ?_
      refine e_aload_n dX10_pick_34 rfl ?_
      refine e_getI dX10_pick_35 rfl rfl h4.1 h4.2 ?_
      obtain ⟨h6, h⟩ := p_ok_some h
      obtain ⟨h7, h⟩ := p_ok_some h
      refine e_baG dX10_pick_38 h6 h7 ?_
      refine e_bipush (v := (97 : Int32)) dX10_pick_39 rfl ?_
      refine e_ic_lt dX10_pick_41 71 (by decide) (fun hc => ?_) (fun hc => ?_)
      · rw [if_pos hc] at h
        exact E_X10_pick_c71 h hQ
      · rw [if_neg hc] at h
        refine e_aload_n dX10_pick_44 rfl ?_
        refine e_getR dX10_pick_45 rfl rfl h4.1 h4.2 hq5 ?_
        refine e_aload_n dX10_pick_48 rfl ?_
        refine e_getI dX10_pick_49 rfl rfl h4.1 h4.2 ?_
        refine e_baG dX10_pick_52 h6 h7 ?_
        refine e_bipush (v := (122 : Int32)) dX10_pick_53 rfl ?_
        refine e_ic_gt dX10_pick_55 71 (by decide) (fun hc => ?_) (fun hc => ?_)
        · rw [if_pos hc] at h
          exact E_X10_pick_c71 h hQ
        · rw [if_neg hc] at h
          refine e_aload_n dX10_pick_58 rfl ?_
          refine e_dupR dX10_pick_59 ?_
          refine e_getI dX10_pick_60 rfl rfl h4.1 h4.2 ?_
          refine e_iconst (v := (1 : Int32)) dX10_pick_63 rfl ?_
          refine e_iadd dX10_pick_64 ?_
          replace h := p_lt h
          refine e_putI dX10_pick_65 rfl ⟨rfl, rfl, (fun h => by cases h)⟩ (fun h => by cases h) h4.1 h4.2 ?_
          refine e_goto dX10_pick_68 19 (by decide) ?_
          exact ih _ _ _ _ _ _ h hQ
def F_X10_pick (v0 : Nat) (v1 : Nat) (μ : p_M) : Option (Int32 × p_M) :=
  p_ok (mK μ v0 = 11 ∧ v0 < mN μ)
  (if (mI μ v0 3) = (-1)
  then ((F_X10_skipBlanks v0 μ).bind fun q2 =>
    p_ok (mK q2.2 v0 = 11 ∧ v0 < mN q2.2)
    (F_X10_pick_c19 p_fu v0 v1 (mI q2.2 v0 2) q2.2))
  else (some ((-1), μ)))
theorem E_X10_pick {X : p_X} {d : Nat} {Q : p_R → Prop} {v0 : Nat} {v1 : Nat} {μ : p_M} {r : Int32 × p_M} (h : F_X10_pick v0 v1 μ = some r) (hQ : Q ((0, some (.int r.1)), r.2)) : p_Ev X (d + 1) M_X10_pick 0 [.ref v0, .ref v1, .double 0, .double 0] [] μ Q := by
  unfold F_X10_pick at h
  refine e_aload_n dX10_pick_0 rfl ?_
  obtain ⟨h1, h⟩ := p_ok_some h
  refine e_getI dX10_pick_1 rfl rfl h1.1 h1.2 ?_
  refine e_iconst (v := (-1)) dX10_pick_4 rfl ?_
  refine e_ic_eq dX10_pick_5 10 (by decide) (fun hc => ?_) (fun hc => ?_)
  · rw [if_pos hc] at h
    refine e_aload_n dX10_pick_10 rfl ?_
    obtain ⟨q2, hq2, h⟩ := p_bd h
    refine f_cVv dX10_pick_11 rfl rfl ⟨rfl, rfl, by decide⟩ rfl h1 (fun Q' hQ' => E_X10_skipBlanks hq2 hQ') ?_
    refine e_aload_n dX10_pick_14 rfl ?_
    obtain ⟨h3, h⟩ := p_ok_some h
    refine e_getI dX10_pick_15 rfl rfl h3.1 h3.2 ?_
    refine e_istore_n dX10_pick_18 (Nat.le_of_ble_eq_true rfl) rfl ?_
    exact E_X10_pick_c19 p_fu _ _ _ _ _ _ h hQ
  · rw [if_neg hc] at h
    refine e_iconst (v := (-1)) dX10_pick_8 rfl ?_
    cases h
    exact e_ireti dX10_pick_9 rfl hQ
/-! X10_refuseNext -/
def F_X10_refuseNext (v0 : Nat) (μ : p_M) : Option (Int32 × p_M) :=
  p_ok (mK μ v0 = 11 ∧ v0 < mN μ)
  ((F_X10_skipBlanks v0 μ).bind fun q1 =>
  p_ok (mK q1.2 v0 = 11 ∧ v0 < mN q1.2)
  ((F_X10_refuse v0 (mI q1.2 v0 2) q1.2).bind fun q4 =>
  some (0, q4.2)))
theorem E_X10_refuseNext {X : p_X} {d : Nat} {Q : p_R → Prop} {v0 : Nat} {μ : p_M} {r : Int32 × p_M} (h : F_X10_refuseNext v0 μ = some r) (hQ : Q ((0, none), r.2)) : p_Ev X (d + 1) M_X10_refuseNext 0 [.ref v0] [] μ Q := by
  unfold F_X10_refuseNext at h
  refine e_aload_n dX10_refuseNext_0 rfl ?_
  obtain ⟨h2, h⟩ := p_ok_some h
  obtain ⟨q1, hq1, h⟩ := p_bd h
  refine f_cVv dX10_refuseNext_1 rfl rfl ⟨rfl, rfl, by decide⟩ rfl h2 (fun Q' hQ' => E_X10_skipBlanks hq1 hQ') ?_
  refine e_aload_n dX10_refuseNext_4 rfl ?_
  refine e_aload_n dX10_refuseNext_5 rfl ?_
  obtain ⟨h3, h⟩ := p_ok_some h
  refine e_getI dX10_refuseNext_6 rfl rfl h3.1 h3.2 ?_
  obtain ⟨q4, hq4, h⟩ := p_bd h
  refine f_cVv dX10_refuseNext_9 rfl rfl ⟨rfl, rfl, by decide⟩ rfl h3 (fun Q' hQ' => E_X10_refuse hq4 hQ') ?_
  cases h
  exact e_vret dX10_refuseNext_12 rfl hQ
/-! X1_readAgain -/
def F_X1_readAgain (v0 : Nat) (v1 : Nat) (μ : p_M) : Option (Int32 × p_M) :=
  p_ok (mK μ v0 = 2 ∧ v0 < mN μ)
  ((mR μ v0 0).bind fun q2 =>
  p_ok (mK μ v1 = 11 ∧ v1 < mN μ)
  ((F_X10_number v1 (3 : Int32) (0 : Int32) (5 : Int32) μ).bind fun q3 =>
  p_ok (q2 < p_E ∧ mK q3.2 q2 = 20 ∧ q2 < mN q3.2)
  (p_ok (¬ (13 : Int32) < 0 ∧ (13 : Int32).toNatClampNeg < mL q3.2 q2)
  (p_let (sI q3.2 q2 (13 : Int32).toNatClampNeg q3.1) fun m7 =>
  p_ok (mK m7 v1 = 11 ∧ v1 < mN m7)
  ((F_X10_pick v1 (p_E + 10 + 17) m7).bind fun q8 =>
  p_ok (mK q8.2 v1 = 11 ∧ v1 < mN q8.2)
  ((F_X10_pick v1 (p_E + 10 + 23) q8.2).bind fun q10 =>
  p_ok (mK q10.2 v0 = 2 ∧ v0 < mN q10.2)
  ((mR q10.2 v0 0).bind fun q13 =>
  p_ok (mK q10.2 v1 = 11 ∧ v1 < mN q10.2)
  ((F_X10_pick v1 (p_E + 10 + 21) q10.2).bind fun q14 =>
  p_ok (q13 < p_E ∧ mK q14.2 q13 = 20 ∧ q13 < mN q14.2)
  (p_ok (¬ (14 : Int32) < 0 ∧ (14 : Int32).toNatClampNeg < mL q14.2 q13)
  (p_let (sI q14.2 q13 (14 : Int32).toNatClampNeg q14.1) fun m18 =>
  p_ok (mK m18 v0 = 2 ∧ v0 < mN m18)
  ((mR m18 v0 0).bind fun q20 =>
  p_ok (mK m18 v1 = 11 ∧ v1 < mN m18)
  ((F_X10_number v1 (3 : Int32) (1 : Int32) (20 : Int32) m18).bind fun q21 =>
  p_ok (q20 < p_E ∧ mK q21.2 q20 = 20 ∧ q20 < mN q21.2)
  (p_ok (¬ (15 : Int32) < 0 ∧ (15 : Int32).toNatClampNeg < mL q21.2 q20)
  (p_let (sI q21.2 q20 (15 : Int32).toNatClampNeg q21.1) fun m25 =>
  some (0, m25)))))))))))))))
theorem E_X1_readAgain {X : p_X} {d : Nat} {Q : p_R → Prop} {v0 : Nat} {v1 : Nat} {μ : p_M} {r : Int32 × p_M} (h : F_X1_readAgain v0 v1 μ = some r) (hQ : Q ((0, none), r.2)) : p_Ev X (d + 2) M_X1_readAgain 0 [.ref v0, .ref v1] [] μ Q := by
  unfold F_X1_readAgain at h
  refine e_aload_n dX1_readAgain_0 rfl ?_
  obtain ⟨h1, h⟩ := p_ok_some h
  obtain ⟨q2, hq2, h⟩ := p_bd h
  refine e_getR dX1_readAgain_1 rfl rfl h1.1 h1.2 hq2 ?_
  refine e_bipush (v := (13 : Int32)) dX1_readAgain_4 rfl ?_
  refine e_aload_n dX1_readAgain_6 rfl ?_
  refine e_iconst (v := (3 : Int32)) dX1_readAgain_7 rfl ?_
  refine e_iconst (v := (0 : Int32)) dX1_readAgain_8 rfl ?_
  refine e_iconst (v := (5 : Int32)) dX1_readAgain_9 rfl ?_
  obtain ⟨h4, h⟩ := p_ok_some h
  obtain ⟨q3, hq3, h⟩ := p_bd h
  refine f_cVi dX1_readAgain_10 rfl rfl ⟨rfl, rfl, by decide⟩ rfl h4 (fun Q' hQ' => E_X10_number hq3 hQ') ?_
  obtain ⟨h5, h⟩ := p_ok_some h
  obtain ⟨h6, h⟩ := p_ok_some h
  replace h := p_lt h
  refine e_iaS dX1_readAgain_13 h5 h6 ?_
  refine e_aload_n dX1_readAgain_14 rfl ?_
  refine e_ldcS dX1_readAgain_15 rfl rfl ?_
  obtain ⟨h9, h⟩ := p_ok_some h
  obtain ⟨q8, hq8, h⟩ := p_bd h
  refine f_cVi dX1_readAgain_17 rfl rfl ⟨rfl, rfl, by decide⟩ rfl h9 (fun Q' hQ' => E_X10_pick hq8 hQ') ?_
  refine e_popI dX1_readAgain_20 ?_
  refine e_aload_n dX1_readAgain_21 rfl ?_
  refine e_ldcS dX1_readAgain_22 rfl rfl ?_
  obtain ⟨h11, h⟩ := p_ok_some h
  obtain ⟨q10, hq10, h⟩ := p_bd h
  refine f_cVi dX1_readAgain_24 rfl rfl ⟨rfl, rfl, by decide⟩ rfl h11 (fun Q' hQ' => E_X10_pick hq10 hQ') ?_
  refine e_popI dX1_readAgain_27 ?_
  refine e_aload_n dX1_readAgain_28 rfl ?_
  obtain ⟨h12, h⟩ := p_ok_some h
  obtain ⟨q13, hq13, h⟩ := p_bd h
  refine e_getR dX1_readAgain_29 rfl rfl h12.1 h12.2 hq13 ?_
  refine e_bipush (v := (14 : Int32)) dX1_readAgain_32 rfl ?_
  refine e_aload_n dX1_readAgain_34 rfl ?_
  refine e_ldcS dX1_readAgain_35 rfl rfl ?_
  obtain ⟨h15, h⟩ := p_ok_some h
  obtain ⟨q14, hq14, h⟩ := p_bd h
  refine f_cVi dX1_readAgain_37 rfl rfl ⟨rfl, rfl, by decide⟩ rfl h15 (fun Q' hQ' => E_X10_pick hq14 hQ') ?_
  obtain ⟨h16, h⟩ := p_ok_some h
  obtain ⟨h17, h⟩ := p_ok_some h
  replace h := p_lt h
  refine e_iaS dX1_readAgain_40 h16 h17 ?_
  refine e_aload_n dX1_readAgain_41 rfl ?_
  obtain ⟨h19, h⟩ := p_ok_some h
  obtain ⟨q20, hq20, h⟩ := p_bd h
  refine e_getR dX1_readAgain_42 rfl rfl h19.1 h19.2 hq20 ?_
  refine e_bipush (v := (15 : Int32)) dX1_readAgain_45 rfl ?_
  refine e_aload_n dX1_readAgain_47 rfl ?_
  refine e_iconst (v := (3 : Int32)) dX1_readAgain_48 rfl ?_
  refine e_iconst (v := (1 : Int32)) dX1_readAgain_49 rfl ?_
  refine e_bipush (v := (20 : Int32)) dX1_readAgain_50 rfl ?_
  obtain ⟨h22, h⟩ := p_ok_some h
  obtain ⟨q21, hq21, h⟩ := p_bd h
  refine f_cVi dX1_readAgain_52 rfl rfl ⟨rfl, rfl, by decide⟩ rfl h22 (fun Q' hQ' => E_X10_number hq21 hQ') ?_
  obtain ⟨h23, h⟩ := p_ok_some h
  obtain ⟨h24, h⟩ := p_ok_some h
  replace h := p_lt h
  refine e_iaS dX1_readAgain_55 h23 h24 ?_
  cases h
  exact e_vret dX1_readAgain_56 rfl hQ
/-! X1_readOfBath -/
def F_X1_readOfBath_c35 (μ : p_M) : Option (Int32 × p_M) :=
  some (0, μ)
theorem E_X1_readOfBath_c35 {X : p_X} {d : Nat} {Q : p_R → Prop} {w0 : Value} {w1 : Value} {w2 : Value} {w3 : Value} {w4 : Value} {w5 : Value} {w6 : Value} {μ : p_M} {r : Int32 × p_M} (h : F_X1_readOfBath_c35 μ = some r) (hQ : Q ((0, none), r.2)) : p_Ev X (d + 2) M_X1_readOfBath 35 [w0, w1, w2, w3, w4, w5, w6] [] μ Q := by
  unfold F_X1_readOfBath_c35 at h
  cases h
  exact e_vret dX1_readOfBath_35 rfl hQ
def F_X1_readOfBath (v0 : Nat) (v1 : Nat) (v2 : Int32) (v3 : Int32) (v4 : Int32) (μ : p_M) : Option (Int32 × p_M) :=
  p_ok (mK μ v1 = 11 ∧ v1 < mN μ)
  ((F_X10_pick v1 (p_E + 10 + 22) μ).bind fun q1 =>
  p_ok (mK q1.2 v1 = 11 ∧ v1 < mN q1.2)
  ((F_X10_number v1 (3 : Int32) v3 v4 q1.2).bind fun q3 =>
  if q1.1 = (-1)
  then (F_X1_readOfBath_c35 q3.2)
  else (p_ok (mK q3.2 v0 = 2 ∧ v0 < mN q3.2)
    ((mR q3.2 v0 0).bind fun q6 =>
    p_ok (q6 < p_E ∧ mK q3.2 q6 = 20 ∧ q6 < mN q3.2)
    (p_ok (¬ (v2 + q1.1) < 0 ∧ (v2 + q1.1).toNatClampNeg < mL q3.2 q6)
    (p_let (sI q3.2 q6 (v2 + q1.1).toNatClampNeg q3.1) fun m9 =>
    F_X1_readOfBath_c35 m9))))))
theorem E_X1_readOfBath {X : p_X} {d : Nat} {Q : p_R → Prop} {v0 : Nat} {v1 : Nat} {v2 : Int32} {v3 : Int32} {v4 : Int32} {μ : p_M} {r : Int32 × p_M} (h : F_X1_readOfBath v0 v1 v2 v3 v4 μ = some r) (hQ : Q ((0, none), r.2)) : p_Ev X (d + 2) M_X1_readOfBath 0 [.ref v0, .ref v1, .int v2, .int v3, .int v4, .double 0, .double 0] [] μ Q := by
  unfold F_X1_readOfBath at h
  refine e_aload_n dX1_readOfBath_0 rfl ?_
  refine e_ldcS dX1_readOfBath_1 rfl rfl ?_
  obtain ⟨h2, h⟩ := p_ok_some h
  obtain ⟨q1, hq1, h⟩ := p_bd h
  refine f_cVi dX1_readOfBath_3 rfl rfl ⟨rfl, rfl, by decide⟩ rfl h2 (fun Q' hQ' => E_X10_pick hq1 hQ') ?_
  refine e_istore dX1_readOfBath_6 (Nat.le_of_ble_eq_true rfl) rfl ?_
  refine e_aload_n dX1_readOfBath_8 rfl ?_
  refine e_iconst (v := (3 : Int32)) dX1_readOfBath_9 rfl ?_
  refine e_iload_n dX1_readOfBath_10 rfl ?_
  refine e_iload dX1_readOfBath_11 rfl ?_
  obtain ⟨h4, h⟩ := p_ok_some h
  obtain ⟨q3, hq3, h⟩ := p_bd h
  refine f_cVi dX1_readOfBath_13 rfl rfl ⟨rfl, rfl, by decide⟩ rfl h4 (fun Q' hQ' => E_X10_number hq3 hQ') ?_
  refine e_istore dX1_readOfBath_16 (Nat.le_of_ble_eq_true rfl) rfl ?_
  refine e_iload dX1_readOfBath_18 rfl ?_
  refine e_iconst (v := (-1)) dX1_readOfBath_20 rfl ?_
  refine e_ic_eq dX1_readOfBath_21 35 (by decide) (fun hc => ?_) (fun hc => ?_)
  · rw [if_pos hc] at h
    exact E_X1_readOfBath_c35 h hQ
  · rw [if_neg hc] at h
    refine e_aload_n dX1_readOfBath_24 rfl ?_
    obtain ⟨h5, h⟩ := p_ok_some h
    obtain ⟨q6, hq6, h⟩ := p_bd h
    refine e_getR dX1_readOfBath_25 rfl rfl h5.1 h5.2 hq6 ?_
    refine e_iload_n dX1_readOfBath_28 rfl ?_
    refine e_iload dX1_readOfBath_29 rfl ?_
    refine e_iadd dX1_readOfBath_31 ?_
    refine e_iload dX1_readOfBath_32 rfl ?_
    obtain ⟨h7, h⟩ := p_ok_some h
    obtain ⟨h8, h⟩ := p_ok_some h
    replace h := p_lt h
    refine e_iaS dX1_readOfBath_34 h7 h8 ?_
    exact E_X1_readOfBath_c35 h hQ
/-! X1_readPours -/
def F_X1_readPours_c42 (μ : p_M) : Option (Int32 × p_M) :=
  some (0, μ)
theorem E_X1_readPours_c42 {X : p_X} {d : Nat} {Q : p_R → Prop} {w0 : Value} {w1 : Value} {w2 : Value} {w3 : Value} {μ : p_M} {r : Int32 × p_M} (h : F_X1_readPours_c42 μ = some r) (hQ : Q ((0, none), r.2)) : p_Ev X (d + 2) M_X1_readPours 42 [w0, w1, w2, w3] [] μ Q := by
  unfold F_X1_readPours_c42 at h
  cases h
  exact e_vret dX1_readPours_42 rfl hQ
def F_X1_readPours_c27 (v0 : Nat) (v2 : Int32) (s0 : Int32) (μ : p_M) : Option (Int32 × p_M) :=
  if v2 = (-1)
  then (F_X1_readPours_c42 μ)
  else (p_ok (mK μ v0 = 2 ∧ v0 < mN μ)
    ((mR μ v0 0).bind fun q8 =>
    p_ok (q8 < p_E ∧ mK μ q8 = 20 ∧ q8 < mN μ)
    (p_ok (¬ ((4 : Int32) + v2) < 0 ∧ ((4 : Int32) + v2).toNatClampNeg < mL μ q8)
    (p_let (sI μ q8 ((4 : Int32) + v2).toNatClampNeg s0) fun m11 =>
    F_X1_readPours_c42 m11))))
theorem E_X1_readPours_c27 {X : p_X} {d : Nat} {Q : p_R → Prop} {v0 : Nat} {v2 : Int32} {s0 : Int32} {w1 : Value} {w3 : Value} {μ : p_M} {r : Int32 × p_M} (h : F_X1_readPours_c27 v0 v2 s0 μ = some r) (hQ : Q ((0, none), r.2)) : p_Ev X (d + 2) M_X1_readPours 27 [.ref v0, w1, .int v2, w3] [.int s0] μ Q := by
  unfold F_X1_readPours_c27 at h
  refine e_istore_n dX1_readPours_27 (Nat.le_of_ble_eq_true rfl) rfl ?_
  refine e_iload_n dX1_readPours_28 rfl ?_
  refine e_iconst (v := (-1)) dX1_readPours_29 rfl ?_
  refine e_ic_eq dX1_readPours_30 42 (by decide) (fun hc => ?_) (fun hc => ?_)
  · rw [if_pos hc] at h
    exact E_X1_readPours_c42 h hQ
  · rw [if_neg hc] at h
    refine e_aload_n dX1_readPours_33 rfl ?_
    obtain ⟨h7, h⟩ := p_ok_some h
    obtain ⟨q8, hq8, h⟩ := p_bd h
    refine e_getR dX1_readPours_34 rfl rfl h7.1 h7.2 hq8 ?_
    refine e_iconst (v := (4 : Int32)) dX1_readPours_37 rfl ?_
    refine e_iload_n dX1_readPours_38 rfl ?_
    refine e_iadd dX1_readPours_39 ?_
    refine e_iload_n dX1_readPours_40 rfl ?_
    obtain ⟨h9, h⟩ := p_ok_some h
    obtain ⟨h10, h⟩ := p_ok_some h
    replace h := p_lt h
    refine e_iaS dX1_readPours_41 h9 h10 ?_
    exact E_X1_readPours_c42 h hQ
def F_X1_readPours (v0 : Nat) (v1 : Nat) (μ : p_M) : Option (Int32 × p_M) :=
  p_ok (mK μ v1 = 11 ∧ v1 < mN μ)
  ((F_X10_pick v1 (p_E + 10 + 22) μ).bind fun q1 =>
  p_ok (mK q1.2 v1 = 11 ∧ v1 < mN q1.2)
  ((F_X10_pick v1 (p_E + 10 + 19) q1.2).bind fun q3 =>
  if ¬ q3.1 = 0
  then (F_X1_readPours_c27 v0 q1.1 (-1) q3.2)
  else (p_ok (mK q3.2 v1 = 11 ∧ v1 < mN q3.2)
    ((F_X10_number v1 (3 : Int32) (0 : Int32) (4 : Int32) q3.2).bind fun q5 =>
    F_X1_readPours_c27 v0 q1.1 q5.1 q5.2))))
theorem E_X1_readPours {X : p_X} {d : Nat} {Q : p_R → Prop} {v0 : Nat} {v1 : Nat} {μ : p_M} {r : Int32 × p_M} (h : F_X1_readPours v0 v1 μ = some r) (hQ : Q ((0, none), r.2)) : p_Ev X (d + 2) M_X1_readPours 0 [.ref v0, .ref v1, .double 0, .double 0] [] μ Q := by
  unfold F_X1_readPours at h
  refine e_aload_n dX1_readPours_0 rfl ?_
  refine e_ldcS dX1_readPours_1 rfl rfl ?_
  obtain ⟨h2, h⟩ := p_ok_some h
  obtain ⟨q1, hq1, h⟩ := p_bd h
  refine f_cVi dX1_readPours_3 rfl rfl ⟨rfl, rfl, by decide⟩ rfl h2 (fun Q' hQ' => E_X10_pick hq1 hQ') ?_
  refine e_istore_n dX1_readPours_6 (Nat.le_of_ble_eq_true rfl) rfl ?_
  refine e_aload_n dX1_readPours_7 rfl ?_
  refine e_ldcS dX1_readPours_8 rfl rfl ?_
  obtain ⟨h4, h⟩ := p_ok_some h
  obtain ⟨q3, hq3, h⟩ := p_bd h
  refine f_cVi dX1_readPours_10 rfl rfl ⟨rfl, rfl, by decide⟩ rfl h4 (fun Q' hQ' => E_X10_pick hq3 hQ') ?_
  refine e_if_ne dX1_readPours_13 26 (by decide) (fun hc => ?_) (fun hc => ?_)
  · rw [if_pos hc] at h
    refine e_iconst (v := (-1)) dX1_readPours_26 rfl ?_
    exact E_X1_readPours_c27 h hQ
  · rw [if_neg hc] at h
    refine e_aload_n dX1_readPours_16 rfl ?_
    refine e_iconst (v := (3 : Int32)) dX1_readPours_17 rfl ?_
    refine e_iconst (v := (0 : Int32)) dX1_readPours_18 rfl ?_
    refine e_iconst (v := (4 : Int32)) dX1_readPours_19 rfl ?_
    obtain ⟨h6, h⟩ := p_ok_some h
    obtain ⟨q5, hq5, h⟩ := p_bd h
    refine f_cVi dX1_readPours_20 rfl rfl ⟨rfl, rfl, by decide⟩ rfl h6 (fun Q' hQ' => E_X10_number hq5 hQ') ?_
    refine e_goto dX1_readPours_23 27 (by decide) ?_
    exact E_X1_readPours_c27 h hQ
/-! X1_readRule -/
def F_X1_readRule_c167 (μ : p_M) : Option (Int32 × p_M) :=
  some (0, μ)
theorem E_X1_readRule_c167 {X : p_X} {d : Nat} {Q : p_R → Prop} {w0 : Value} {w1 : Value} {μ : p_M} {r : Int32 × p_M} (h : F_X1_readRule_c167 μ = some r) (hQ : Q ((0, none), r.2)) : p_Ev X (d + 3) M_X1_readRule 167 [w0, w1] [] μ Q := by
  unfold F_X1_readRule_c167 at h
  cases h
  exact e_vret dX1_readRule_167 rfl hQ
def F_X1_readRule (v0 : Nat) (v1 : Nat) (μ : p_M) : Option (Int32 × p_M) :=
  p_ok (mK μ v0 = 2 ∧ v0 < mN μ)
  (if (mI μ v0 1) < (24 : Int32)
  then (p_let (sI μ v0 1 ((mI μ v0 1) + (1 : Int32))) fun m2 =>
    p_ok (mK m2 v1 = 11 ∧ v1 < mN m2)
    ((F_X10_pick v1 (p_E + 10 + 5) m2).bind fun q3 =>
    if q3.1.toInt < 0 ∨ 6 < q3.1.toInt then (F_X1_readRule_c167 q3.2)
    else if q3.1 = 0 then (p_ok (mK q3.2 v0 = 2 ∧ v0 < mN q3.2)
      ((F_X1_readOfBath v0 v1 (0 : Int32) (0 : Int32) (100 : Int32) q3.2).bind fun q5 =>
      F_X1_readRule_c167 q5.2))
    else if q3.1 = 1 then (p_ok (mK q3.2 v0 = 2 ∧ v0 < mN q3.2)
      ((F_X1_readPours v0 v1 q3.2).bind fun q7 =>
      F_X1_readRule_c167 q7.2))
    else if q3.1 = 2 then (p_ok (mK q3.2 v0 = 2 ∧ v0 < mN q3.2)
      ((mR q3.2 v0 0).bind fun q10 =>
      p_ok (mK q3.2 v1 = 11 ∧ v1 < mN q3.2)
      ((F_X10_number v1 (3 : Int32) (1 : Int32) (20 : Int32) q3.2).bind fun q11 =>
      p_ok (q10 < p_E ∧ mK q11.2 q10 = 20 ∧ q10 < mN q11.2)
      (p_ok (¬ (8 : Int32) < 0 ∧ (8 : Int32).toNatClampNeg < mL q11.2 q10)
      (p_let (sI q11.2 q10 (8 : Int32).toNatClampNeg q11.1) fun m15 =>
      F_X1_readRule_c167 m15)))))
    else if q3.1 = 3 then (p_ok (mK q3.2 v0 = 2 ∧ v0 < mN q3.2)
      ((F_X1_readOfBath v0 v1 (9 : Int32) (1 : Int32) (60 : Int32) q3.2).bind fun q16 =>
      F_X1_readRule_c167 q16.2))
    else if q3.1 = 4 then (p_ok (mK q3.2 v0 = 2 ∧ v0 < mN q3.2)
      ((F_X1_readAgain v0 v1 q3.2).bind fun q18 =>
      F_X1_readRule_c167 q18.2))
    else if q3.1 = 5 then (p_ok (mK q3.2 v0 = 2 ∧ v0 < mN q3.2)
      ((mR q3.2 v0 0).bind fun q21 =>
      p_ok (mK q3.2 v1 = 11 ∧ v1 < mN q3.2)
      ((F_X10_number v1 (3 : Int32) (1 : Int32) (20 : Int32) q3.2).bind fun q22 =>
      p_ok (q21 < p_E ∧ mK q22.2 q21 = 20 ∧ q21 < mN q22.2)
      (p_ok (¬ (16 : Int32) < 0 ∧ (16 : Int32).toNatClampNeg < mL q22.2 q21)
      (p_let (sI q22.2 q21 (16 : Int32).toNatClampNeg q22.1) fun m26 =>
      F_X1_readRule_c167 m26)))))
    else if q3.1 = 6 then (p_ok (mK q3.2 v0 = 2 ∧ v0 < mN q3.2)
      ((mR q3.2 v0 0).bind fun q28 =>
      p_ok (mK q3.2 v1 = 11 ∧ v1 < mN q3.2)
      ((F_X10_number v1 (3 : Int32) (0 : Int32) (50 : Int32) q3.2).bind fun q29 =>
      p_ok (q28 < p_E ∧ mK q29.2 q28 = 20 ∧ q28 < mN q29.2)
      (p_ok (¬ (17 : Int32) < 0 ∧ (17 : Int32).toNatClampNeg < mL q29.2 q28)
      (p_let (sI q29.2 q28 (17 : Int32).toNatClampNeg q29.1) fun m33 =>
      F_X1_readRule_c167 m33)))))
    else none))
  else (p_ok (mK μ v1 = 11 ∧ v1 < mN μ)
    ((F_X10_refuseNext v1 μ).bind fun q34 =>
    some (0, q34.2))))
theorem E_X1_readRule {X : p_X} {d : Nat} {Q : p_R → Prop} {v0 : Nat} {v1 : Nat} {μ : p_M} {r : Int32 × p_M} (h : F_X1_readRule v0 v1 μ = some r) (hQ : Q ((0, none), r.2)) : p_Ev X (d + 3) M_X1_readRule 0 [.ref v0, .ref v1] [] μ Q := by
  unfold F_X1_readRule at h
  refine e_aload_n dX1_readRule_0 rfl ?_
  obtain ⟨h1, h⟩ := p_ok_some h
  refine e_getI dX1_readRule_1 rfl rfl h1.1 h1.2 ?_
  refine e_bipush (v := (24 : Int32)) dX1_readRule_4 rfl ?_
  refine e_ic_lt dX1_readRule_6 14 (by decide) (fun hc => ?_) (fun hc => ?_)
  · rw [if_pos hc] at h
    refine e_aload_n dX1_readRule_14 rfl ?_
    refine e_dupR dX1_readRule_15 ?_
    refine e_getI dX1_readRule_16 rfl rfl h1.1 h1.2 ?_
    refine e_iconst (v := (1 : Int32)) dX1_readRule_19 rfl ?_
    refine e_iadd dX1_readRule_20 ?_
    replace h := p_lt h
    refine e_putI dX1_readRule_21 rfl ⟨rfl, rfl, (fun h => by cases h)⟩ (fun h => by cases h) h1.1 h1.2 ?_
    refine e_aload_n dX1_readRule_24 rfl ?_
    refine e_ldcS dX1_readRule_25 rfl rfl ?_
    obtain ⟨h4, h⟩ := p_ok_some h
    obtain ⟨q3, hq3, h⟩ := p_bd h
    refine f_cVi dX1_readRule_27 rfl rfl ⟨rfl, rfl, by decide⟩ rfl h4 (fun Q' hQ' => E_X10_pick hq3 hQ') ?_
    by_cases hc : q3.1.toInt < 0 ∨ 6 < q3.1.toInt
    · rw [if_pos hc] at h
      refine e_swD dX1_readRule_30 hc 167 (by decide) ?_
      exact E_X1_readRule_c167 h hQ
    rw [if_neg hc] at h
    by_cases hc : q3.1 = 0
    · rw [if_pos hc] at h
      refine e_swK (v := 0) dX1_readRule_30 hc (by decide) rfl 72 (by decide) ?_
      refine e_aload_n dX1_readRule_72 rfl ?_
      refine e_aload_n dX1_readRule_73 rfl ?_
      refine e_iconst (v := (0 : Int32)) dX1_readRule_74 rfl ?_
      refine e_iconst (v := (0 : Int32)) dX1_readRule_75 rfl ?_
      refine e_bipush (v := (100 : Int32)) dX1_readRule_76 rfl ?_
      obtain ⟨h6, h⟩ := p_ok_some h
      obtain ⟨q5, hq5, h⟩ := p_bd h
      refine f_cVv dX1_readRule_78 rfl rfl ⟨rfl, rfl, by decide⟩ rfl h6 (fun Q' hQ' => E_X1_readOfBath hq5 hQ') ?_
      refine e_goto dX1_readRule_81 167 (by decide) ?_
      exact E_X1_readRule_c167 h hQ
    rw [if_neg hc] at h
    by_cases hc : q3.1 = 1
    · rw [if_pos hc] at h
      refine e_swK (v := 1) dX1_readRule_30 hc (by decide) rfl 84 (by decide) ?_
      refine e_aload_n dX1_readRule_84 rfl ?_
      refine e_aload_n dX1_readRule_85 rfl ?_
      obtain ⟨h8, h⟩ := p_ok_some h
      obtain ⟨q7, hq7, h⟩ := p_bd h
      refine f_cVv dX1_readRule_86 rfl rfl ⟨rfl, rfl, by decide⟩ rfl h8 (fun Q' hQ' => E_X1_readPours hq7 hQ') ?_
      refine e_goto dX1_readRule_89 167 (by decide) ?_
      exact E_X1_readRule_c167 h hQ
    rw [if_neg hc] at h
    by_cases hc : q3.1 = 2
    · rw [if_pos hc] at h
      refine e_swK (v := 2) dX1_readRule_30 hc (by decide) rfl 92 (by decide) ?_
      refine e_aload_n dX1_readRule_92 rfl ?_
      obtain ⟨h9, h⟩ := p_ok_some h
      obtain ⟨q10, hq10, h⟩ := p_bd h
      refine e_getR dX1_readRule_93 rfl rfl h9.1 h9.2 hq10 ?_
      refine e_bipush (v := (8 : Int32)) dX1_readRule_96 rfl ?_
      refine e_aload_n dX1_readRule_98 rfl ?_
      refine e_iconst (v := (3 : Int32)) dX1_readRule_99 rfl ?_
      refine e_iconst (v := (1 : Int32)) dX1_readRule_100 rfl ?_
      refine e_bipush (v := (20 : Int32)) dX1_readRule_101 rfl ?_
      obtain ⟨h12, h⟩ := p_ok_some h
      obtain ⟨q11, hq11, h⟩ := p_bd h
      refine f_cVi dX1_readRule_103 rfl rfl ⟨rfl, rfl, by decide⟩ rfl h12 (fun Q' hQ' => E_X10_number hq11 hQ') ?_
      obtain ⟨h13, h⟩ := p_ok_some h
      obtain ⟨h14, h⟩ := p_ok_some h
      replace h := p_lt h
      refine e_iaS dX1_readRule_106 h13 h14 ?_
      refine e_goto dX1_readRule_107 167 (by decide) ?_
      exact E_X1_readRule_c167 h hQ
    rw [if_neg hc] at h
    by_cases hc : q3.1 = 3
    · rw [if_pos hc] at h
      refine e_swK (v := 3) dX1_readRule_30 hc (by decide) rfl 110 (by decide) ?_
      refine e_aload_n dX1_readRule_110 rfl ?_
      refine e_aload_n dX1_readRule_111 rfl ?_
      refine e_bipush (v := (9 : Int32)) dX1_readRule_112 rfl ?_
      refine e_iconst (v := (1 : Int32)) dX1_readRule_114 rfl ?_
      refine e_bipush (v := (60 : Int32)) dX1_readRule_115 rfl ?_
      obtain ⟨h17, h⟩ := p_ok_some h
      obtain ⟨q16, hq16, h⟩ := p_bd h
      refine f_cVv dX1_readRule_117 rfl rfl ⟨rfl, rfl, by decide⟩ rfl h17 (fun Q' hQ' => E_X1_readOfBath hq16 hQ') ?_
      refine e_goto dX1_readRule_120 167 (by decide) ?_
      exact E_X1_readRule_c167 h hQ
    rw [if_neg hc] at h
    by_cases hc : q3.1 = 4
    · rw [if_pos hc] at h
      refine e_swK (v := 4) dX1_readRule_30 hc (by decide) rfl 123 (by decide) ?_
      refine e_aload_n dX1_readRule_123 rfl ?_
      refine e_aload_n dX1_readRule_124 rfl ?_
      obtain ⟨h19, h⟩ := p_ok_some h
      obtain ⟨q18, hq18, h⟩ := p_bd h
      refine f_cVv dX1_readRule_125 rfl rfl ⟨rfl, rfl, by decide⟩ rfl h19 (fun Q' hQ' => E_X1_readAgain hq18 hQ') ?_
      refine e_goto dX1_readRule_128 167 (by decide) ?_
      exact E_X1_readRule_c167 h hQ
    rw [if_neg hc] at h
    by_cases hc : q3.1 = 5
    · rw [if_pos hc] at h
      refine e_swK (v := 5) dX1_readRule_30 hc (by decide) rfl 131 (by decide) ?_
      refine e_aload_n dX1_readRule_131 rfl ?_
      obtain ⟨h20, h⟩ := p_ok_some h
      obtain ⟨q21, hq21, h⟩ := p_bd h
      refine e_getR dX1_readRule_132 rfl rfl h20.1 h20.2 hq21 ?_
      refine e_bipush (v := (16 : Int32)) dX1_readRule_135 rfl ?_
      refine e_aload_n dX1_readRule_137 rfl ?_
      refine e_iconst (v := (3 : Int32)) dX1_readRule_138 rfl ?_
      refine e_iconst (v := (1 : Int32)) dX1_readRule_139 rfl ?_
      refine e_bipush (v := (20 : Int32)) dX1_readRule_140 rfl ?_
      obtain ⟨h23, h⟩ := p_ok_some h
      obtain ⟨q22, hq22, h⟩ := p_bd h
      refine f_cVi dX1_readRule_142 rfl rfl ⟨rfl, rfl, by decide⟩ rfl h23 (fun Q' hQ' => E_X10_number hq22 hQ') ?_
      obtain ⟨h24, h⟩ := p_ok_some h
      obtain ⟨h25, h⟩ := p_ok_some h
      replace h := p_lt h
      refine e_iaS dX1_readRule_145 h24 h25 ?_
      refine e_goto dX1_readRule_146 167 (by decide) ?_
      exact E_X1_readRule_c167 h hQ
    rw [if_neg hc] at h
    by_cases hc : q3.1 = 6
    · rw [if_pos hc] at h
      refine e_swK (v := 6) dX1_readRule_30 hc (by decide) rfl 149 (by decide) ?_
      refine e_aload_n dX1_readRule_149 rfl ?_
      obtain ⟨h27, h⟩ := p_ok_some h
      obtain ⟨q28, hq28, h⟩ := p_bd h
      refine e_getR dX1_readRule_150 rfl rfl h27.1 h27.2 hq28 ?_
      refine e_bipush (v := (17 : Int32)) dX1_readRule_153 rfl ?_
      refine e_aload_n dX1_readRule_155 rfl ?_
      refine e_iconst (v := (3 : Int32)) dX1_readRule_156 rfl ?_
      refine e_iconst (v := (0 : Int32)) dX1_readRule_157 rfl ?_
      refine e_bipush (v := (50 : Int32)) dX1_readRule_158 rfl ?_
      obtain ⟨h30, h⟩ := p_ok_some h
      obtain ⟨q29, hq29, h⟩ := p_bd h
      refine f_cVi dX1_readRule_160 rfl rfl ⟨rfl, rfl, by decide⟩ rfl h30 (fun Q' hQ' => E_X10_number hq29 hQ') ?_
      obtain ⟨h31, h⟩ := p_ok_some h
      obtain ⟨h32, h⟩ := p_ok_some h
      replace h := p_lt h
      refine e_iaS dX1_readRule_163 h31 h32 ?_
      refine e_goto dX1_readRule_164 167 (by decide) ?_
      exact E_X1_readRule_c167 h hQ
    rw [if_neg hc] at h
    cases h
  · rw [if_neg hc] at h
    refine e_aload_n dX1_readRule_9 rfl ?_
    obtain ⟨h35, h⟩ := p_ok_some h
    obtain ⟨q34, hq34, h⟩ := p_bd h
    refine f_cVv dX1_readRule_10 rfl rfl ⟨rfl, rfl, by decide⟩ rfl h35 (fun Q' hQ' => E_X10_refuseNext hq34 hQ') ?_
    cases h
    exact e_vret dX1_readRule_13 rfl hQ
/-! X1_read -/
def F_X1_read_c63 (X : p_X) (μ : p_M) : Option (Int32 × p_M) :=
  some (0, μ)
theorem E_X1_read_c63 {X : p_X} {d : Nat} {Q : p_R → Prop} {w0 : Value} {w1 : Value} {w2 : Value} {w3 : Value} {μ : p_M} {r : Int32 × p_M} (h : F_X1_read_c63 X μ = some r) (hQ : Q ((0, none), r.2)) : p_Ev X (d + 4) M_X1_read 63 [w0, w1, w2, w3] [] μ Q := by
  unfold F_X1_read_c63 at h
  cases h
  exact e_vret dX1_read_63 rfl hQ
def F_X1_read_c37 (X : p_X) : Nat → Nat → Nat → Int32 → Int32 → p_M → Option (Int32 × p_M)
  | 0, _, _, _, _, _ => none
  | n + 1, v0, v1, v2, v3, μ =>
    if (24 : Int32) < v3
    then (F_X1_read_c63 X μ)
    else (if v2 = 0
      then (F_X1_read_c63 X μ)
      else (p_ok (mK μ v0 = 2 ∧ v0 < mN μ)
        ((F_X1_readRule v0 v1 μ).bind fun q10 =>
        p_ok (mK q10.2 v1 = 11 ∧ v1 < mN q10.2)
        ((F_X10_goesOn v1 q10.2).bind fun q12 =>
        F_X1_read_c37 X n v0 v1 q12.1 (v3 + (1 : Int32)) q12.2))))
theorem E_X1_read_c37 {X : p_X} {d : Nat} {Q : p_R → Prop} : ∀ (n : Nat) (v0 : Nat) (v1 : Nat) (v2 : Int32) (v3 : Int32) (μ : p_M) (r : Int32 × p_M), F_X1_read_c37 X n v0 v1 v2 v3 μ = some r → Q ((0, none), r.2) → p_Ev X (d + 4) M_X1_read 37 [.ref v0, .ref v1, .int v2, .int v3] [] μ Q := by
  intro n
  induction n with
  | zero => intro v0 v1 v2 v3 μ r h hQ; rw [F_X1_read_c37] at h; cases h
  | succ n ih =>
    intro v0 v1 v2 v3 μ r h hQ
    rw [F_X1_read_c37] at h
    refine e_iload_n dX1_read_37 rfl ?_
    refine e_bipush (v := (24 : Int32)) dX1_read_38 rfl ?_
    refine e_ic_gt dX1_read_40 63 (by decide) (fun hc => ?_) (fun hc => ?_)
    · rw [if_pos hc] at h
      exact E_X1_read_c63 h hQ
    · rw [if_neg hc] at h
      refine e_iload_n dX1_read_43 rfl ?_
      refine e_if_eq dX1_read_44 63 (by decide) (fun hc => ?_) (fun hc => ?_)
      · rw [if_pos hc] at h
        exact E_X1_read_c63 h hQ
      · rw [if_neg hc] at h
        refine e_aload_n dX1_read_47 rfl ?_
        refine e_aload_n dX1_read_48 rfl ?_
        obtain ⟨h11, h⟩ := p_ok_some h
        obtain ⟨q10, hq10, h⟩ := p_bd h
        refine f_cVv dX1_read_49 rfl rfl ⟨rfl, rfl, by decide⟩ rfl h11 (fun Q' hQ' => E_X1_readRule hq10 hQ') ?_
        refine e_aload_n dX1_read_52 rfl ?_
        obtain ⟨h13, h⟩ := p_ok_some h
        obtain ⟨q12, hq12, h⟩ := p_bd h
        refine f_cVi dX1_read_53 rfl rfl ⟨rfl, rfl, by decide⟩ rfl h13 (fun Q' hQ' => E_X10_goesOn hq12 hQ') ?_
        refine e_istore_n dX1_read_56 (Nat.le_of_ble_eq_true rfl) rfl ?_
        refine e_iinc (v := (1 : Int32)) dX1_read_57 rfl rfl rfl ?_
        refine e_goto dX1_read_60 37 (by decide) ?_
        exact ih _ _ _ _ _ _ h hQ
def F_X1_read_c34 (X : p_X) (v0 : Nat) (v1 : Nat) (s0 : Int32) (μ : p_M) : Option (Int32 × p_M) :=
  F_X1_read_c37 X p_fu v0 v1 s0 (0 : Int32) μ
theorem E_X1_read_c34 {X : p_X} {d : Nat} {Q : p_R → Prop} {v0 : Nat} {v1 : Nat} {s0 : Int32} {w2 : Value} {w3 : Value} {μ : p_M} {r : Int32 × p_M} (h : F_X1_read_c34 X v0 v1 s0 μ = some r) (hQ : Q ((0, none), r.2)) : p_Ev X (d + 4) M_X1_read 34 [.ref v0, .ref v1, w2, w3] [.int s0] μ Q := by
  unfold F_X1_read_c34 at h
  refine e_istore_n dX1_read_34 (Nat.le_of_ble_eq_true rfl) rfl ?_
  refine e_iconst (v := (0 : Int32)) dX1_read_35 rfl ?_
  refine e_istore_n dX1_read_36 (Nat.le_of_ble_eq_true rfl) rfl ?_
  exact E_X1_read_c37 p_fu _ _ _ _ _ _ h hQ
def F_X1_read (X : p_X) (v0 : Nat) (v1 : Nat) (μ : p_M) : Option (Int32 × p_M) :=
  p_ok (mK μ v0 = 2 ∧ v0 < mN μ)
  ((mR μ v0 0).bind fun q2 =>
  p_ok (q2 < p_E ∧ 20 ≤ mK μ q2 ∧ mK μ q2 ≤ 26 ∧ q2 < mN μ)
  (p_ok (¬ ((0 : Int32) < 0 ∨ (0 : Int32) < 0 ∨ (nI (mL μ q2)) < 0 ∨ ¬ mK μ q2 = 20 ∨ mN μ ≤ q2 ∨ mL μ q2 < (0 : Int32).toNatClampNeg + (nI (mL μ q2)).toNatClampNeg))
  (p_ok ((0 : Int32).toNatClampNeg + (nI (mL μ q2)).toNatClampNeg ≤ (X 1).1)
  (p_let (sA μ q2 (va_cpy (X 1).2 (mI μ q2) (0 : Int32).toNatClampNeg (0 : Int32).toNatClampNeg (nI (mL μ q2)).toNatClampNeg)) fun m6 =>
  p_let (sI m6 v0 1 (0 : Int32)) fun m7 =>
  p_ok (mK m7 v1 = 11 ∧ v1 < mN m7)
  ((F_X10_isBlank v1 m7).bind fun q8 =>
  if ¬ q8.1 = 0
  then (F_X1_read_c34 X v0 v1 (0 : Int32) q8.2)
  else (F_X1_read_c34 X v0 v1 (1 : Int32) q8.2))))))
theorem E_X1_read {X : p_X} {d : Nat} {Q : p_R → Prop} {v0 : Nat} {v1 : Nat} {μ : p_M} {r : Int32 × p_M} (h : F_X1_read X v0 v1 μ = some r) (hQ : Q ((0, none), r.2)) : p_Ev X (d + 4) M_X1_read 0 [.ref v0, .ref v1, .double 0, .double 0] [] μ Q := by
  unfold F_X1_read at h
  refine e_getst dX1_read_0 rfl ?_
  refine e_iconst (v := (0 : Int32)) dX1_read_3 rfl ?_
  refine e_aload_n dX1_read_4 rfl ?_
  obtain ⟨h1, h⟩ := p_ok_some h
  obtain ⟨q2, hq2, h⟩ := p_bd h
  refine e_getR dX1_read_5 rfl rfl h1.1 h1.2 hq2 ?_
  refine e_iconst (v := (0 : Int32)) dX1_read_8 rfl ?_
  refine e_aload_n dX1_read_9 rfl ?_
  refine e_getR dX1_read_10 rfl rfl h1.1 h1.2 hq2 ?_
  obtain ⟨h3, h⟩ := p_ok_some h
  refine e_alen dX1_read_13 h3 ?_
  obtain ⟨h4, h⟩ := p_ok_some h
  obtain ⟨h5, h⟩ := p_ok_some h
  replace h := p_lt h
  refine e_acpX dX1_read_14 rfl (Nat.le_of_ble_eq_true rfl) (by decide) h4 h5 ?_
  refine e_aload_n dX1_read_17 rfl ?_
  refine e_iconst (v := (0 : Int32)) dX1_read_18 rfl ?_
  replace h := p_lt h
  refine e_putI dX1_read_19 rfl ⟨rfl, rfl, (fun h => by cases h)⟩ (fun h => by cases h) h1.1 h1.2 ?_
  refine e_aload_n dX1_read_22 rfl ?_
  obtain ⟨h9, h⟩ := p_ok_some h
  obtain ⟨q8, hq8, h⟩ := p_bd h
  refine f_cVi dX1_read_23 rfl rfl ⟨rfl, rfl, by decide⟩ rfl h9 (fun Q' hQ' => E_X10_isBlank hq8 hQ') ?_
  refine e_if_ne dX1_read_26 33 (by decide) (fun hc => ?_) (fun hc => ?_)
  · rw [if_pos hc] at h
    refine e_iconst (v := (0 : Int32)) dX1_read_33 rfl ?_
    exact E_X1_read_c34 h hQ
  · rw [if_neg hc] at h
    refine e_iconst (v := (1 : Int32)) dX1_read_29 rfl ?_
    refine e_goto dX1_read_30 34 (by decide) ?_
    exact E_X1_read_c34 h hQ
/-! X12_house -/
def F_X12_house_c42 (X : p_X) (v0 : Nat) (s0 : Int32) (μ : p_M) : Option (Nat × Int32 × p_M) :=
  (F_X12_need s0 μ).bind fun q14 =>
  if q14.1 = 0
  then (p_ok (mK q14.2.2 v0 = 13 ∧ v0 < mN q14.2.2)
    ((mR q14.2.2 v0 5).bind fun q16 =>
    (mR q14.2.2 v0 6).bind fun q17 =>
    p_let (sR q14.2.2 v0 5 (some q17)) fun m18 =>
    p_let (sR m18 v0 6 (some q16)) fun m19 =>
    (mR m19 v0 5).bind fun q20 =>
    p_ok (mK m19 q20 = 2 ∧ q20 < mN m19)
    (some (0, (mI m19 q20 1), m19))))
  else (some (q14.1, 0, q14.2.2))
theorem E_X12_house_c42 {X : p_X} {d : Nat} {Q : p_R → Prop} {v0 : Nat} {s0 : Int32} {w1 : Value} {μ : p_M} {r : Nat × Int32 × p_M} (h : F_X12_house_c42 X v0 s0 μ = some r) (hQ : Q (tI r)) : p_Ev X (d + 5) M_X12_house 42 [.ref v0, w1] [.int s0] μ Q := by
  unfold F_X12_house_c42 at h
  obtain ⟨q14, hq14, h⟩ := p_bd h
  refine f_tSv dX12_house_42 rfl rfl rfl rfl (by decide) rfl (fun Q' hQ' => E_X12_need hq14 hQ') (fun hc => ?_) (fun hc => ?_)
  · rw [if_pos hc] at h
    refine e_aload_n dX12_house_45 rfl ?_
    obtain ⟨h15, h⟩ := p_ok_some h
    obtain ⟨q16, hq16, h⟩ := p_bd h
    refine e_getR dX12_house_46 rfl rfl h15.1 h15.2 hq16 ?_
    refine e_astore_n dX12_house_49 (Nat.le_of_ble_eq_true rfl) rfl ?_
    refine e_aload_n dX12_house_50 rfl ?_
    refine e_aload_n dX12_house_51 rfl ?_
    obtain ⟨q17, hq17, h⟩ := p_bd h
    refine e_getR dX12_house_52 rfl rfl h15.1 h15.2 hq17 ?_
    replace h := p_lt h
    refine e_putR dX12_house_55 rfl ⟨rfl, rfl, (fun h => by cases h)⟩ h15 ?_
    refine e_aload_n dX12_house_58 rfl ?_
    refine e_aload_n dX12_house_59 rfl ?_
    replace h := p_lt h
    refine e_putR dX12_house_60 rfl ⟨rfl, rfl, (fun h => by cases h)⟩ h15 ?_
    refine e_aload_n dX12_house_63 rfl ?_
    obtain ⟨q20, hq20, h⟩ := p_bd h
    refine e_getR dX12_house_64 rfl rfl h15.1 h15.2 hq20 ?_
    obtain ⟨h21, h⟩ := p_ok_some h
    refine e_getI dX12_house_67 rfl rfl h21.1 h21.2 ?_
    cases h
    exact e_ireti dX12_house_70 rfl hQ
  · rw [if_neg hc] at h
    cases h
    exact tI_E hc hQ
def F_X12_house (X : p_X) (v0 : Nat) (μ : p_M) : Option (Nat × Int32 × p_M) :=
  p_ok (mK μ v0 = 13 ∧ v0 < mN μ)
  ((mR μ v0 0).bind fun q2 =>
  p_ok (mK μ q2 = 11 ∧ q2 < mN μ)
  ((F_X10_open q2 μ).bind fun q3 =>
  p_ok (mK q3.2 v0 = 13 ∧ v0 < mN q3.2)
  ((mR q3.2 v0 6).bind fun q6 =>
  (mR q3.2 v0 0).bind fun q7 =>
  p_ok (mK q3.2 q6 = 2 ∧ q6 < mN q3.2)
  ((F_X1_read X q6 q7 q3.2).bind fun q8 =>
  p_ok (mK q8.2 v0 = 13 ∧ v0 < mN q8.2)
  ((mR q8.2 v0 0).bind fun q11 =>
  p_ok (mK q8.2 q11 = 11 ∧ q11 < mN q8.2)
  (p_let (sI q8.2 q11 1 (0 : Int32)) fun m13 =>
  if ¬ (mI m13 q11 3) = (-1)
  then (F_X12_house_c42 X v0 (0 : Int32) m13)
  else (F_X12_house_c42 X v0 (1 : Int32) m13)))))))
theorem E_X12_house {X : p_X} {d : Nat} {Q : p_R → Prop} {v0 : Nat} {μ : p_M} {r : Nat × Int32 × p_M} (h : F_X12_house X v0 μ = some r) (hQ : Q (tI r)) : p_Ev X (d + 5) M_X12_house 0 [.ref v0, .double 0] [] μ Q := by
  unfold F_X12_house at h
  refine e_aload_n dX12_house_0 rfl ?_
  obtain ⟨h1, h⟩ := p_ok_some h
  obtain ⟨q2, hq2, h⟩ := p_bd h
  refine e_getR dX12_house_1 rfl rfl h1.1 h1.2 hq2 ?_
  obtain ⟨h4, h⟩ := p_ok_some h
  obtain ⟨q3, hq3, h⟩ := p_bd h
  refine f_cVv dX12_house_4 rfl rfl ⟨rfl, rfl, by decide⟩ rfl h4 (fun Q' hQ' => E_X10_open hq3 hQ') ?_
  refine e_aload_n dX12_house_7 rfl ?_
  obtain ⟨h5, h⟩ := p_ok_some h
  obtain ⟨q6, hq6, h⟩ := p_bd h
  refine e_getR dX12_house_8 rfl rfl h5.1 h5.2 hq6 ?_
  refine e_aload_n dX12_house_11 rfl ?_
  obtain ⟨q7, hq7, h⟩ := p_bd h
  refine e_getR dX12_house_12 rfl rfl h5.1 h5.2 hq7 ?_
  obtain ⟨h9, h⟩ := p_ok_some h
  obtain ⟨q8, hq8, h⟩ := p_bd h
  refine f_cVv dX12_house_15 rfl rfl ⟨rfl, rfl, by decide⟩ rfl h9 (fun Q' hQ' => E_X1_read hq8 hQ') ?_
  refine e_aload_n dX12_house_18 rfl ?_
  obtain ⟨h10, h⟩ := p_ok_some h
  obtain ⟨q11, hq11, h⟩ := p_bd h
  refine e_getR dX12_house_19 rfl rfl h10.1 h10.2 hq11 ?_
  refine e_iconst (v := (0 : Int32)) dX12_house_22 rfl ?_
  obtain ⟨h12, h⟩ := p_ok_some h
  replace h := p_lt h
  refine e_putI dX12_house_23 rfl ⟨rfl, rfl, (fun _ => rfl)⟩ (fun h => by cases h) h12.1 h12.2 ?_
  refine e_aload_n dX12_house_26 rfl ?_
  refine e_getR dX12_house_27 rfl rfl h10.1 h10.2 hq11 ?_
  refine e_getI dX12_house_30 rfl rfl h12.1 h12.2 ?_
  refine e_iconst (v := (-1)) dX12_house_33 rfl ?_
  refine e_ic_ne dX12_house_34 41 (by decide) (fun hc => ?_) (fun hc => ?_)
  · rw [if_pos hc] at h
    refine e_iconst (v := (0 : Int32)) dX12_house_41 rfl ?_
    exact E_X12_house_c42 h hQ
  · rw [if_neg hc] at h
    refine e_iconst (v := (1 : Int32)) dX12_house_37 rfl ?_
    refine e_goto dX12_house_38 42 (by decide) ?_
    exact E_X12_house_c42 h hQ
/-! L_house -/
def F_L_house (X : p_X) (v0 : Nat) (v1 : Nat) (μ : p_M) : Option (Int32 × p_M) :=
  p_ok (mK μ v0 = 13 ∧ v0 < mN μ)
  ((F_X12_house X v0 μ).bind fun q1 =>
  if q1.1 = 0
  then (p_ok (mK q1.2.2 v1 = 22 ∧ ¬ (0 : Int32) < 0 ∧ (0 : Int32).toNatClampNeg < mL q1.2.2 v1 ∧ v1 < mN q1.2.2)
    (p_let (sJ q1.2.2 v1 (0 : Int32).toNatClampNeg q1.2.1.toInt64) fun m4 =>
    some ((0 : Int32), m4)))
  else if q1.1 = 1 then (some ((1 : Int32), q1.2.2))
  else none)
theorem E_L_house {X : p_X} {d : Nat} {Q : p_R → Prop} {v0 : Nat} {v1 : Nat} {μ : p_M} {r : Int32 × p_M} (h : F_L_house X v0 v1 μ = some r) (hQ : Q ((0, some (.int r.1)), r.2)) : p_Ev X (d + 6) M_L_house 0 [.ref v0, .ref v1, .double 0] [] μ Q := by
  unfold F_L_house at h
  refine e_aload_n dL_house_0 rfl ?_
  refine e_iconst (v := (0 : Int32)) dL_house_1 rfl ?_
  refine e_aload_n dL_house_2 rfl ?_
  obtain ⟨h2, h⟩ := p_ok_some h
  obtain ⟨q1, hq1, h⟩ := p_bd h
  refine f_hVi dL_house_3 rfl rfl ⟨rfl, rfl, by decide⟩ rfl h2 (by decide) (fun Q' hQ' => E_X12_house hq1 hQ') (fun hc => ?_) (fun hc => ?_)
  · rw [if_pos hc] at h
    refine e_i2l dL_house_6 ?_
    obtain ⟨h3, h⟩ := p_ok_some h
    replace h := p_lt h
    refine e_laS dL_house_7 h3 ?_
    refine e_goto dL_house_8 14 (by decide) ?_
    refine e_iconst (v := (0 : Int32)) dL_house_14 rfl ?_
    cases h
    exact e_ireti dL_house_15 rfl hQ
  · rw [if_neg hc] at h
    by_cases hc : q1.1 = 1
    · rw [if_pos hc] at h
      refine ⟨11, by rw [hc]; rfl, ?_⟩
      refine e_astZ_n dL_house_11 (Nat.le_of_ble_eq_true rfl) rfl ?_
      refine e_iconst (v := (1 : Int32)) dL_house_12 rfl ?_
      cases h
      exact e_ireti dL_house_13 rfl hQ
    rw [if_neg hc] at h
    cases h
/-! X12_known -/
def F_X12_known (v0 : Nat) (v1 : Int32) (v2 : Int32) (v3 : Int32) (μ : p_M) : Option (Nat × Int32 × p_M) :=
  p_ok (mK μ v0 = 13 ∧ v0 < mN μ)
  ((F_X12_lotAt v0 v1 μ).bind fun q1 =>
  if q1.1 = 0
  then (p_ok (mK q1.2.2 q1.2.1 = 5 ∧ q1.2.1 < mN q1.2.2)
    ((F_X12_needIndex v2 (mI q1.2.2 q1.2.1 1) q1.2.2).bind fun q4 =>
    if q4.1 = 0
    then (p_ok (mK q4.2.2 v0 = 13 ∧ v0 < mN q4.2.2)
      ((F_X12_judged v0 q1.2.1 v2 v3 q4.2.2).bind fun q5 =>
      some (0, q5.1, q5.2)))
    else (some (q4.1, 0, q4.2.2))))
  else (some (q1.1, 0, q1.2.2)))
theorem E_X12_known {X : p_X} {d : Nat} {Q : p_R → Prop} {v0 : Nat} {v1 : Int32} {v2 : Int32} {v3 : Int32} {μ : p_M} {r : Nat × Int32 × p_M} (h : F_X12_known v0 v1 v2 v3 μ = some r) (hQ : Q (tI r)) : p_Ev X (d + 2) M_X12_known 0 [.ref v0, .int v1, .int v2, .int v3, .double 0] [] μ Q := by
  unfold F_X12_known at h
  refine e_aload_n dX12_known_0 rfl ?_
  refine e_iload_n dX12_known_1 rfl ?_
  obtain ⟨h2, h⟩ := p_ok_some h
  obtain ⟨q1, hq1, h⟩ := p_bd h
  refine f_tVr dX12_known_2 rfl rfl ⟨rfl, rfl, by decide⟩ rfl h2 (by decide) rfl (fun Q' hQ' => E_X12_lotAt hq1 hQ') (fun hc => ?_) (fun hc => ?_)
  · rw [if_pos hc] at h
    refine e_astore dX12_known_5 (Nat.le_of_ble_eq_true rfl) rfl ?_
    refine e_iload_n dX12_known_7 rfl ?_
    refine e_aload dX12_known_8 rfl ?_
    obtain ⟨h3, h⟩ := p_ok_some h
    refine e_getI dX12_known_10 rfl rfl h3.1 h3.2 ?_
    obtain ⟨q4, hq4, h⟩ := p_bd h
    refine f_tSv dX12_known_13 rfl rfl rfl rfl (by decide) rfl (fun Q' hQ' => E_X12_needIndex hq4 hQ') (fun hc => ?_) (fun hc => ?_)
    · rw [if_pos hc] at h
      refine e_aload_n dX12_known_16 rfl ?_
      refine e_aload dX12_known_17 rfl ?_
      refine e_iload_n dX12_known_19 rfl ?_
      refine e_iload_n dX12_known_20 rfl ?_
      obtain ⟨h6, h⟩ := p_ok_some h
      obtain ⟨q5, hq5, h⟩ := p_bd h
      refine f_cVi dX12_known_21 rfl rfl ⟨rfl, rfl, by decide⟩ rfl h6 (fun Q' hQ' => E_X12_judged hq5 hQ') ?_
      cases h
      exact e_ireti dX12_known_24 rfl hQ
    · rw [if_neg hc] at h
      cases h
      exact tI_E hc hQ
  · rw [if_neg hc] at h
    cases h
    exact tI_E hc hQ
/-! L_known -/
def F_L_known (v0 : Nat) (v1 : Int32) (v2 : Int32) (v3 : Int32) (v4 : Nat) (μ : p_M) : Option (Int32 × p_M) :=
  p_ok (mK μ v0 = 13 ∧ v0 < mN μ)
  ((F_X12_known v0 v1 v2 v3 μ).bind fun q1 =>
  if q1.1 = 0
  then (p_ok (mK q1.2.2 v4 = 22 ∧ ¬ (0 : Int32) < 0 ∧ (0 : Int32).toNatClampNeg < mL q1.2.2 v4 ∧ v4 < mN q1.2.2)
    (p_let (sJ q1.2.2 v4 (0 : Int32).toNatClampNeg q1.2.1.toInt64) fun m4 =>
    some ((0 : Int32), m4)))
  else if q1.1 = 3 then (some ((1 : Int32), q1.2.2))
  else none)
theorem E_L_known {X : p_X} {d : Nat} {Q : p_R → Prop} {v0 : Nat} {v1 : Int32} {v2 : Int32} {v3 : Int32} {v4 : Nat} {μ : p_M} {r : Int32 × p_M} (h : F_L_known v0 v1 v2 v3 v4 μ = some r) (hQ : Q ((0, some (.int r.1)), r.2)) : p_Ev X (d + 3) M_L_known 0 [.ref v0, .int v1, .int v2, .int v3, .ref v4, .double 0] [] μ Q := by
  unfold F_L_known at h
  refine e_aload dL_known_0 rfl ?_
  refine e_iconst (v := (0 : Int32)) dL_known_2 rfl ?_
  refine e_aload_n dL_known_3 rfl ?_
  refine e_iload_n dL_known_4 rfl ?_
  refine e_iload_n dL_known_5 rfl ?_
  refine e_iload_n dL_known_6 rfl ?_
  obtain ⟨h2, h⟩ := p_ok_some h
  obtain ⟨q1, hq1, h⟩ := p_bd h
  refine f_hVi dL_known_7 rfl rfl ⟨rfl, rfl, by decide⟩ rfl h2 (by decide) (fun Q' hQ' => E_X12_known hq1 hQ') (fun hc => ?_) (fun hc => ?_)
  · rw [if_pos hc] at h
    refine e_i2l dL_known_10 ?_
    obtain ⟨h3, h⟩ := p_ok_some h
    replace h := p_lt h
    refine e_laS dL_known_11 h3 ?_
    refine e_goto dL_known_12 19 (by decide) ?_
    refine e_iconst (v := (0 : Int32)) dL_known_19 rfl ?_
    cases h
    exact e_ireti dL_known_20 rfl hQ
  · rw [if_neg hc] at h
    by_cases hc : q1.1 = 3
    · rw [if_pos hc] at h
      refine ⟨15, by rw [hc]; rfl, ?_⟩
      refine e_astZ dL_known_15 (Nat.le_of_ble_eq_true rfl) rfl ?_
      refine e_iconst (v := (1 : Int32)) dL_known_17 rfl ?_
      cases h
      exact e_ireti dL_known_18 rfl hQ
    rw [if_neg hc] at h
    cases h
/-! X3_part -/
def F_X3_part_c64 (s0 : Int32) (μ : p_M) : Option (Int32 × p_M) :=
  some (s0, μ)
theorem E_X3_part_c64 {X : p_X} {d : Nat} {Q : p_R → Prop} {s0 : Int32} {w0 : Value} {w1 : Value} {μ : p_M} {r : Int32 × p_M} (h : F_X3_part_c64 s0 μ = some r) (hQ : Q ((0, some (.int r.1)), r.2)) : p_Ev X (d + 0) M_X3_part 64 [w0, w1] [.int s0] μ Q := by
  unfold F_X3_part_c64 at h
  cases h
  exact e_ireti dX3_part_64 rfl hQ
def F_X3_part (v0 : Nat) (v1 : Int32) (μ : p_M) : Option (Int32 × p_M) :=
  if v1.toInt < 0 ∨ 3 < v1.toInt then (p_ok (mK μ v0 = 4 ∧ v0 < mN μ)
    (if (mI μ v0 4) = 0
    then (F_X3_part_c64 (0 : Int32) μ)
    else (F_X3_part_c64 (1 : Int32) μ)))
  else if v1 = 0 then (p_ok (mK μ v0 = 4 ∧ v0 < mN μ)
    (some ((mI μ v0 0), μ)))
  else if v1 = 1 then (p_ok (mK μ v0 = 4 ∧ v0 < mN μ)
    (some ((mI μ v0 1), μ)))
  else if v1 = 2 then (p_ok (mK μ v0 = 4 ∧ v0 < mN μ)
    (some ((mI μ v0 2), μ)))
  else if v1 = 3 then (p_ok (mK μ v0 = 4 ∧ v0 < mN μ)
    (some ((mI μ v0 3), μ)))
  else none
theorem E_X3_part {X : p_X} {d : Nat} {Q : p_R → Prop} {v0 : Nat} {v1 : Int32} {μ : p_M} {r : Int32 × p_M} (h : F_X3_part v0 v1 μ = some r) (hQ : Q ((0, some (.int r.1)), r.2)) : p_Ev X (d + 0) M_X3_part 0 [.ref v0, .int v1] [] μ Q := by
  unfold F_X3_part at h
  refine e_iload_n dX3_part_0 rfl ?_
  by_cases hc : v1.toInt < 0 ∨ 3 < v1.toInt
  · rw [if_pos hc] at h
    refine e_swD dX3_part_1 hc 52 (by decide) ?_
    refine e_aload_n dX3_part_52 rfl ?_
    obtain ⟨h5, h⟩ := p_ok_some h
    refine e_getI dX3_part_53 rfl rfl h5.1 h5.2 ?_
    refine e_if_eq dX3_part_56 63 (by decide) (fun hc => ?_) (fun hc => ?_)
    · rw [if_pos hc] at h
      refine e_iconst (v := (0 : Int32)) dX3_part_63 rfl ?_
      exact E_X3_part_c64 h hQ
    · rw [if_neg hc] at h
      refine e_iconst (v := (1 : Int32)) dX3_part_59 rfl ?_
      refine e_goto dX3_part_60 64 (by decide) ?_
      exact E_X3_part_c64 h hQ
  rw [if_neg hc] at h
  by_cases hc : v1 = 0
  · rw [if_pos hc] at h
    refine e_swK (v := 0) dX3_part_1 hc (by decide) rfl 32 (by decide) ?_
    refine e_aload_n dX3_part_32 rfl ?_
    obtain ⟨h1, h⟩ := p_ok_some h
    refine e_getI dX3_part_33 rfl rfl h1.1 h1.2 ?_
    cases h
    exact e_ireti dX3_part_36 rfl hQ
  rw [if_neg hc] at h
  by_cases hc : v1 = 1
  · rw [if_pos hc] at h
    refine e_swK (v := 1) dX3_part_1 hc (by decide) rfl 37 (by decide) ?_
    refine e_aload_n dX3_part_37 rfl ?_
    obtain ⟨h2, h⟩ := p_ok_some h
    refine e_getI dX3_part_38 rfl rfl h2.1 h2.2 ?_
    cases h
    exact e_ireti dX3_part_41 rfl hQ
  rw [if_neg hc] at h
  by_cases hc : v1 = 2
  · rw [if_pos hc] at h
    refine e_swK (v := 2) dX3_part_1 hc (by decide) rfl 42 (by decide) ?_
    refine e_aload_n dX3_part_42 rfl ?_
    obtain ⟨h3, h⟩ := p_ok_some h
    refine e_getI dX3_part_43 rfl rfl h3.1 h3.2 ?_
    cases h
    exact e_ireti dX3_part_46 rfl hQ
  rw [if_neg hc] at h
  by_cases hc : v1 = 3
  · rw [if_pos hc] at h
    refine e_swK (v := 3) dX3_part_1 hc (by decide) rfl 47 (by decide) ?_
    refine e_aload_n dX3_part_47 rfl ?_
    obtain ⟨h4, h⟩ := p_ok_some h
    refine e_getI dX3_part_48 rfl rfl h4.1 h4.2 ?_
    cases h
    exact e_ireti dX3_part_51 rfl hQ
  rw [if_neg hc] at h
  cases h
/-! X4_countPlaced -/
def F_X4_countPlaced_c25 (K4 : Nat → Int32 → Int32 → Int32 → p_M → Option (Int32 × p_M)) (v0 : Nat) (v1 : Int32) (v2 : Int32) (v3 : Int32) (μ : p_M) : Option (Int32 × p_M) :=
  K4 v0 v1 v2 (v3 + (1 : Int32)) μ
theorem E_X4_countPlaced_c25 {X : p_X} {d : Nat} {Q : p_R → Prop} {K4 : Nat → Int32 → Int32 → Int32 → p_M → Option (Int32 × p_M)} (hK4 : ∀ (v0 : Nat) (v1 : Int32) (v2 : Int32) (v3 : Int32) (μ : p_M) (r : Int32 × p_M), K4 v0 v1 v2 v3 μ = some r → Q ((0, some (.int r.1)), r.2) → p_Ev X (d + 0) M_X4_countPlaced 4 [.ref v0, .int v1, .int v2, .int v3] [] μ Q) {v0 : Nat} {v1 : Int32} {v2 : Int32} {v3 : Int32} {μ : p_M} {r : Int32 × p_M} (h : F_X4_countPlaced_c25 K4 v0 v1 v2 v3 μ = some r) (hQ : Q ((0, some (.int r.1)), r.2)) : p_Ev X (d + 0) M_X4_countPlaced 25 [.ref v0, .int v1, .int v2, .int v3] [] μ Q := by
  unfold F_X4_countPlaced_c25 at h
  refine e_iinc (v := (1 : Int32)) dX4_countPlaced_25 rfl rfl rfl ?_
  refine e_goto dX4_countPlaced_28 4 (by decide) ?_
  exact hK4 _ _ _ _ _ _ h hQ
def F_X4_countPlaced_c4 : Nat → Nat → Int32 → Int32 → Int32 → p_M → Option (Int32 × p_M)
  | 0, _, _, _, _, _ => none
  | n + 1, v0, v1, v2, v3, μ =>
    p_ok (mK μ v0 = 5 ∧ v0 < mN μ)
    (if (mI μ v0 1) ≤ v3
    then (some (v2, μ))
    else ((mR μ v0 15).bind fun q2 =>
      p_ok (q2 < p_E ∧ mK μ q2 = 20 ∧ q2 < mN μ)
      (p_ok (¬ v3 < 0 ∧ v3.toNatClampNeg < mL μ q2)
      (if ¬ (mI μ q2 v3.toNatClampNeg) = v1
      then (F_X4_countPlaced_c25 (F_X4_countPlaced_c4 n) v0 v1 v2 v3 μ)
      else (F_X4_countPlaced_c25 (F_X4_countPlaced_c4 n) v0 v1 (v2 + (1 : Int32)) v3 μ)))))
theorem E_X4_countPlaced_c4 {X : p_X} {d : Nat} {Q : p_R → Prop} : ∀ (n : Nat) (v0 : Nat) (v1 : Int32) (v2 : Int32) (v3 : Int32) (μ : p_M) (r : Int32 × p_M), F_X4_countPlaced_c4 n v0 v1 v2 v3 μ = some r → Q ((0, some (.int r.1)), r.2) → p_Ev X (d + 0) M_X4_countPlaced 4 [.ref v0, .int v1, .int v2, .int v3] [] μ Q := by
  intro n
  induction n with
  | zero => intro v0 v1 v2 v3 μ r h hQ; rw [F_X4_countPlaced_c4] at h; cases h
  | succ n ih =>
    intro v0 v1 v2 v3 μ r h hQ
    rw [F_X4_countPlaced_c4] at h
    refine e_iload_n dX4_countPlaced_4 rfl ?_
    refine e_aload_n dX4_countPlaced_5 rfl ?_
    obtain ⟨h1, h⟩ := p_ok_some h
    refine e_getI dX4_countPlaced_6 rfl rfl h1.1 h1.2 ?_
    refine e_ic_ge dX4_countPlaced_9 31 (by decide) (fun hc => ?_) (fun hc => ?_)
    · rw [if_pos hc] at h
      refine e_iload_n dX4_countPlaced_31 rfl ?_
      cases h
      exact e_ireti dX4_countPlaced_32 rfl hQ
    · rw [if_neg hc] at h
      refine e_aload_n dX4_countPlaced_12 rfl ?_
      obtain ⟨q2, hq2, h⟩ := p_bd h
      refine e_getR dX4_countPlaced_13 rfl rfl h1.1 h1.2 hq2 ?_
      refine e_iload_n dX4_countPlaced_16 rfl ?_
      obtain ⟨h3, h⟩ := p_ok_some h
      obtain ⟨h4, h⟩ := p_ok_some h
      refine e_iaG dX4_countPlaced_17 h3 h4 ?_
      refine e_iload_n dX4_countPlaced_18 rfl ?_
      refine e_ic_ne dX4_countPlaced_19 25 (by decide) (fun hc => ?_) (fun hc => ?_)
      · rw [if_pos hc] at h
        exact E_X4_countPlaced_c25 ih h hQ
      · rw [if_neg hc] at h
        refine e_iinc (v := (1 : Int32)) dX4_countPlaced_22 rfl rfl rfl ?_
        exact E_X4_countPlaced_c25 ih h hQ
def F_X4_countPlaced (v0 : Nat) (v1 : Int32) (μ : p_M) : Option (Int32 × p_M) :=
  F_X4_countPlaced_c4 p_fu v0 v1 (0 : Int32) (0 : Int32) μ
theorem E_X4_countPlaced {X : p_X} {d : Nat} {Q : p_R → Prop} {v0 : Nat} {v1 : Int32} {μ : p_M} {r : Int32 × p_M} (h : F_X4_countPlaced v0 v1 μ = some r) (hQ : Q ((0, some (.int r.1)), r.2)) : p_Ev X (d + 0) M_X4_countPlaced 0 [.ref v0, .int v1, .double 0, .double 0] [] μ Q := by
  unfold F_X4_countPlaced at h
  refine e_iconst (v := (0 : Int32)) dX4_countPlaced_0 rfl ?_
  refine e_istore_n dX4_countPlaced_1 (Nat.le_of_ble_eq_true rfl) rfl ?_
  refine e_iconst (v := (0 : Int32)) dX4_countPlaced_2 rfl ?_
  refine e_istore_n dX4_countPlaced_3 (Nat.le_of_ble_eq_true rfl) rfl ?_
  exact E_X4_countPlaced_c4 p_fu _ _ _ _ _ _ h hQ
