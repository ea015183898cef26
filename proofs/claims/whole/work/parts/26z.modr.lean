/-! X13_seeks -/
def F_X13_seeks_c118 (KS : Int32 → Int32 → Int32 → Int32 → p_M → Option (Int32 × p_M)) (K109 : Int32 → Int32 → Int32 → Int32 → Int32 → Int32 → p_M → Option (Int32 × p_M)) : Nat → Int32 → Int32 → Int32 → Int32 → Int32 → Int32 → Int32 → p_M → Option (Int32 × p_M)
  | 0, _, _, _, _, _, _, _, _ => none
  | n + 1, v1, v2, v3, v4, v5, v6, v7, μ =>
    if (5 : Int32) ≤ v7
    then ((F_X13_usual v6 μ).bind fun q2 =>
      (F_X13_does (v5 + (1 : Int32)) v1 v6 q2.1 q2.2).bind fun q3 =>
      p_ok (¬ v2 < 0 ∧ v2.toNatClampNeg < 6)
      ((F_X13_usual v6 (sI q3.2 (aM 16) v2.toNatClampNeg v6)).bind fun q4 =>
      (F_X13_costOf v6 q4.1 q4.2).bind fun q5 =>
      (KS v1 (v2 + (1 : Int32)) v3 (v4 + q5.1) q5.2).bind fun q6 =>
      K109 v1 v2 v3 v4 v5 (v6 + (1 : Int32)) q6.2))
    else (p_ok (¬ (((5 : Int32) * v5) + v7) < 0 ∧ (((5 : Int32) * v5) + v7).toNatClampNeg < 240)
      (p_ok (¬ (((5 : Int32) * (v5 + (1 : Int32))) + v7) < 0 ∧ (((5 : Int32) * (v5 + (1 : Int32))) + v7).toNatClampNeg < 240)
      (F_X13_seeks_c118 KS K109 n v1 v2 v3 v4 v5 v6 (v7 + (1 : Int32)) (sI μ (aM 15) (((5 : Int32) * (v5 + (1 : Int32))) + v7).toNatClampNeg (mI μ (aM 15) (((5 : Int32) * v5) + v7).toNatClampNeg)))))
theorem P_X13_seeks_c118 {KS : Int32 → Int32 → Int32 → Int32 → p_M → Option (Int32 × p_M)} {K109 : Int32 → Int32 → Int32 → Int32 → Int32 → Int32 → p_M → Option (Int32 × p_M)} (hPS : ∀ (v1 : Int32) (v2 : Int32) (v3 : Int32) (v4 : Int32) (μ : p_M) (r : Int32 × p_M), KS v1 v2 v3 v4 μ = some r → Sm μ r.2) (hP109 : ∀ (v1 : Int32) (v2 : Int32) (v3 : Int32) (v4 : Int32) (v5 : Int32) (v6 : Int32) (μ : p_M) (r : Int32 × p_M), K109 v1 v2 v3 v4 v5 v6 μ = some r → Sm μ r.2) : ∀ (n : Nat) (v1 : Int32) (v2 : Int32) (v3 : Int32) (v4 : Int32) (v5 : Int32) (v6 : Int32) (v7 : Int32) (μ : p_M) (r : Int32 × p_M), F_X13_seeks_c118 KS K109 n v1 v2 v3 v4 v5 v6 v7 μ = some r → Sm μ r.2 := by
  intro n
  induction n with
  | zero => intro v1 v2 v3 v4 v5 v6 v7 μ r h; rw [F_X13_seeks_c118] at h; cases h
  | succ n ih =>
    intro v1 v2 v3 v4 v5 v6 v7 μ r h
    rw [F_X13_seeks_c118] at h
    by_cases hc : (5 : Int32) ≤ v7
    · rw [if_pos hc] at h
      obtain ⟨q2, hq2, h⟩ := p_bd h
      obtain ⟨q3, hq3, h⟩ := p_bd h
      obtain ⟨hc, h⟩ := p_ok_some h
      obtain ⟨q4, hq4, h⟩ := p_bd h
      obtain ⟨q5, hq5, h⟩ := p_bd h
      obtain ⟨q6, hq6, h⟩ := p_bd h
      exact Sm_trans (Sm_trans (Sm_trans (Sm_trans (Sm_set (Sm_trans (Sm_trans (Sm_refl μ) (P_X13_usual (r := q2) hq2)) (P_X13_does (r := q3) hq3)) (by decide)) (P_X13_usual (r := q4) hq4)) (P_X13_costOf (r := q5) hq5)) (hPS _ _ _ _ _ _ hq6)) (hP109 _ _ _ _ _ _ _ _ h)
    · rw [if_neg hc] at h
      obtain ⟨hc, h⟩ := p_ok_some h
      obtain ⟨hc, h⟩ := p_ok_some h
      exact Sm_trans (Sm_set (Sm_refl μ) (by decide)) (ih _ _ _ _ _ _ _ _ _ h)
theorem E_X13_seeks_c118 {X : p_X} {d : Nat} {Q : p_R → Prop} {KS : Int32 → Int32 → Int32 → Int32 → p_M → Option (Int32 × p_M)} {K109 : Int32 → Int32 → Int32 → Int32 → Int32 → Int32 → p_M → Option (Int32 × p_M)} (hPS : ∀ (v1 : Int32) (v2 : Int32) (v3 : Int32) (v4 : Int32) (μ : p_M) (r : Int32 × p_M), KS v1 v2 v3 v4 μ = some r → Sm μ r.2) (hKS : ∀ (Q : p_R → Prop) (v1 : Int32) (v2 : Int32) (v3 : Int32) (v4 : Int32) (μ : p_M) (r : Int32 × p_M), ShM μ → KS v1 v2 v3 v4 μ = some r → Q ((0, none), r.2) → p_Ev X (d + 1) M_X13_seeks 0 [.ref tM, .int v1, .int v2, .int v3, .int v4, .double 0, .double 0, .double 0] [] μ Q) (hK109 : ∀ (v1 : Int32) (v2 : Int32) (v3 : Int32) (v4 : Int32) (v5 : Int32) (v6 : Int32) (μ : p_M) (r : Int32 × p_M) (w7 : Value), ShM μ → K109 v1 v2 v3 v4 v5 v6 μ = some r → Q ((0, none), r.2) → p_Ev X (d + 2) M_X13_seeks 109 [.ref tM, .int v1, .int v2, .int v3, .int v4, .int v5, .int v6, w7] [] μ Q) : ∀ (n : Nat) (v1 : Int32) (v2 : Int32) (v3 : Int32) (v4 : Int32) (v5 : Int32) (v6 : Int32) (v7 : Int32) (μ : p_M) (r : Int32 × p_M), ShM μ → F_X13_seeks_c118 KS K109 n v1 v2 v3 v4 v5 v6 v7 μ = some r → Q ((0, none), r.2) → p_Ev X (d + 2) M_X13_seeks 118 [.ref tM, .int v1, .int v2, .int v3, .int v4, .int v5, .int v6, .int v7] [] μ Q := by
  intro n
  induction n with
  | zero => intro v1 v2 v3 v4 v5 v6 v7 μ r hs h hQ; rw [F_X13_seeks_c118] at h; cases h
  | succ n ih =>
    intro v1 v2 v3 v4 v5 v6 v7 μ r hs h hQ
    rw [F_X13_seeks_c118] at h
    refine e_iload dX13_seeks_118 rfl ?_
    refine e_iconst (v := (5 : Int32)) dX13_seeks_120 rfl ?_
    refine e_ic_ge dX13_seeks_121 156 (by decide) (fun hc => ?_) (fun hc => ?_)
    · rw [if_pos hc] at h
      refine e_aload_n dX13_seeks_156 rfl ?_
      refine e_iload dX13_seeks_157 rfl ?_
      refine e_iconst (v := (1 : Int32)) dX13_seeks_159 rfl ?_
      refine e_iadd dX13_seeks_160 ?_
      refine e_iload_n dX13_seeks_161 rfl ?_
      refine e_iload dX13_seeks_162 rfl ?_
      refine e_iload dX13_seeks_164 rfl ?_
      obtain ⟨q2, hq2, h⟩ := p_bd h
      refine e_cS dX13_seeks_166 rfl rfl rfl rfl (E_X13_usual hs hq2 ⟨rfl, ?_⟩)
      have hs := ShM_of (P_X13_usual (r := q2) hq2) hs
      show p_Ev X (d + 2) M_X13_seeks 169 [.ref tM, .int v1, .int v2, .int v3, .int v4, .int v5, .int v6, .int v7] [.int q2.1, .int v6, .int v1, .int (v5 + (1 : Int32)), .ref tM] q2.2 Q
      obtain ⟨q3, hq3, h⟩ := p_bd h
      refine e_cV dX13_seeks_169 rfl rfl ⟨rfl, rfl, by decide⟩ rfl hs.1 hs.2.1 (E_X13_does hs hq3 ⟨rfl, ?_⟩)
      have hs := ShM_of (P_X13_does (r := q3) hq3) hs
      show p_Ev X (d + 2) M_X13_seeks 172 [.ref tM, .int v1, .int v2, .int v3, .int v4, .int v5, .int v6, .int v7] [] q3.2 Q
      refine e_aload_n dX13_seeks_172 rfl ?_
      refine e_getR dX13_seeks_173 rfl rfl hs.1 hs.2.1 (hs.2.2.2 16 (by decide) rfl).1 ?_
      refine e_iload_n dX13_seeks_176 rfl ?_
      refine e_iload dX13_seeks_177 rfl ?_
      obtain ⟨hc, h⟩ := p_ok_some h
      refine e_iast dX13_seeks_179 (hs.2.2.2 16 (by decide) rfl).2.1 (hs.2.2.2 16 (by decide) rfl).2.2.1 (hs.2.2.2 16 (by decide) rfl).2.2.2 hc ?_
      refine e_aload_n dX13_seeks_180 rfl ?_
      refine e_iload_n dX13_seeks_181 rfl ?_
      refine e_iload_n dX13_seeks_182 rfl ?_
      refine e_iconst (v := (1 : Int32)) dX13_seeks_183 rfl ?_
      refine e_iadd dX13_seeks_184 ?_
      refine e_iload_n dX13_seeks_185 rfl ?_
      refine e_iload dX13_seeks_186 rfl ?_
      refine e_iload dX13_seeks_188 rfl ?_
      refine e_iload dX13_seeks_190 rfl ?_
      obtain ⟨q4, hq4, h⟩ := p_bd h
      refine e_cS dX13_seeks_192 rfl rfl rfl rfl (E_X13_usual hs hq4 ⟨rfl, ?_⟩)
      have hs := ShM_of (P_X13_usual (r := q4) hq4) hs
      show p_Ev X (d + 2) M_X13_seeks 195 [.ref tM, .int v1, .int v2, .int v3, .int v4, .int v5, .int v6, .int v7] [.int q4.1, .int v6, .int v4, .int v3, .int (v2 + (1 : Int32)), .int v1, .ref tM] q4.2 Q
      obtain ⟨q5, hq5, h⟩ := p_bd h
      refine e_cS dX13_seeks_195 rfl rfl rfl rfl (E_X13_costOf hs hq5 ⟨rfl, ?_⟩)
      have hs := ShM_of (P_X13_costOf (r := q5) hq5) hs
      show p_Ev X (d + 2) M_X13_seeks 198 [.ref tM, .int v1, .int v2, .int v3, .int v4, .int v5, .int v6, .int v7] [.int q5.1, .int v4, .int v3, .int (v2 + (1 : Int32)), .int v1, .ref tM] q5.2 Q
      refine e_iadd dX13_seeks_198 ?_
      obtain ⟨q6, hq6, h⟩ := p_bd h
      refine e_cV dX13_seeks_199 rfl rfl ⟨rfl, rfl, by decide⟩ rfl hs.1 hs.2.1 (hKS _ _ _ _ _ _ _ hs hq6 ⟨rfl, ?_⟩)
      have hs := ShM_of (hPS _ _ _ _ _ _ hq6) hs
      show p_Ev X (d + 2) M_X13_seeks 202 [.ref tM, .int v1, .int v2, .int v3, .int v4, .int v5, .int v6, .int v7] [] q6.2 Q
      refine e_iinc (v := (1 : Int32)) dX13_seeks_202 rfl rfl rfl ?_
      refine e_goto dX13_seeks_205 109 (by decide) ?_
      exact hK109 _ _ _ _ _ _ _ _ _ hs h hQ
    · rw [if_neg hc] at h
      refine e_aload_n dX13_seeks_124 rfl ?_
      refine e_getR dX13_seeks_125 rfl rfl hs.1 hs.2.1 (hs.2.2.2 15 (by decide) rfl).1 ?_
      refine e_iconst (v := (5 : Int32)) dX13_seeks_128 rfl ?_
      refine e_iload dX13_seeks_129 rfl ?_
      refine e_iconst (v := (1 : Int32)) dX13_seeks_131 rfl ?_
      refine e_iadd dX13_seeks_132 ?_
      refine e_imul dX13_seeks_133 ?_
      refine e_iload dX13_seeks_134 rfl ?_
      refine e_iadd dX13_seeks_136 ?_
      refine e_aload_n dX13_seeks_137 rfl ?_
      refine e_getR dX13_seeks_138 rfl rfl hs.1 hs.2.1 (hs.2.2.2 15 (by decide) rfl).1 ?_
      refine e_iconst (v := (5 : Int32)) dX13_seeks_141 rfl ?_
      refine e_iload dX13_seeks_142 rfl ?_
      refine e_imul dX13_seeks_144 ?_
      refine e_iload dX13_seeks_145 rfl ?_
      refine e_iadd dX13_seeks_147 ?_
      obtain ⟨hc, h⟩ := p_ok_some h
      refine e_iald dX13_seeks_148 (Nat.lt_trans (hs.2.2.2 15 (by decide) rfl).2.2.2 hs.2.2.1) (hs.2.2.2 15 (by decide) rfl).2.1 (hs.2.2.2 15 (by decide) rfl).2.2.1 (hs.2.2.2 15 (by decide) rfl).2.2.2 hc ?_
      obtain ⟨hc, h⟩ := p_ok_some h
      refine e_iast dX13_seeks_149 (hs.2.2.2 15 (by decide) rfl).2.1 (hs.2.2.2 15 (by decide) rfl).2.2.1 (hs.2.2.2 15 (by decide) rfl).2.2.2 hc ?_
      refine e_iinc (v := (1 : Int32)) dX13_seeks_150 rfl rfl rfl ?_
      refine e_goto dX13_seeks_153 118 (by decide) ?_
      exact ih _ _ _ _ _ _ _ _ _ hs h hQ
def F_X13_seeks_c109 (KS : Int32 → Int32 → Int32 → Int32 → p_M → Option (Int32 × p_M)) : Nat → Int32 → Int32 → Int32 → Int32 → Int32 → Int32 → p_M → Option (Int32 × p_M)
  | 0, _, _, _, _, _, _, _ => none
  | n + 1, v1, v2, v3, v4, v5, v6, μ =>
    if (3 : Int32) < v6
    then (some (0, μ))
    else (F_X13_seeks_c118 KS (F_X13_seeks_c109 KS n) p_fu v1 v2 v3 v4 v5 v6 (0 : Int32) μ)
theorem P_X13_seeks_c109 {KS : Int32 → Int32 → Int32 → Int32 → p_M → Option (Int32 × p_M)} (hPS : ∀ (v1 : Int32) (v2 : Int32) (v3 : Int32) (v4 : Int32) (μ : p_M) (r : Int32 × p_M), KS v1 v2 v3 v4 μ = some r → Sm μ r.2) : ∀ (n : Nat) (v1 : Int32) (v2 : Int32) (v3 : Int32) (v4 : Int32) (v5 : Int32) (v6 : Int32) (μ : p_M) (r : Int32 × p_M), F_X13_seeks_c109 KS n v1 v2 v3 v4 v5 v6 μ = some r → Sm μ r.2 := by
  intro n
  induction n with
  | zero => intro v1 v2 v3 v4 v5 v6 μ r h; rw [F_X13_seeks_c109] at h; cases h
  | succ n ih =>
    intro v1 v2 v3 v4 v5 v6 μ r h
    rw [F_X13_seeks_c109] at h
    by_cases hc : (3 : Int32) < v6
    · rw [if_pos hc] at h
      cases h
      exact (Sm_refl μ)
    · rw [if_neg hc] at h
      exact Sm_trans (Sm_refl μ) (P_X13_seeks_c118 hPS ih p_fu _ _ _ _ _ _ _ _ _ h)
theorem E_X13_seeks_c109 {X : p_X} {d : Nat} {Q : p_R → Prop} {KS : Int32 → Int32 → Int32 → Int32 → p_M → Option (Int32 × p_M)} (hPS : ∀ (v1 : Int32) (v2 : Int32) (v3 : Int32) (v4 : Int32) (μ : p_M) (r : Int32 × p_M), KS v1 v2 v3 v4 μ = some r → Sm μ r.2) (hKS : ∀ (Q : p_R → Prop) (v1 : Int32) (v2 : Int32) (v3 : Int32) (v4 : Int32) (μ : p_M) (r : Int32 × p_M), ShM μ → KS v1 v2 v3 v4 μ = some r → Q ((0, none), r.2) → p_Ev X (d + 1) M_X13_seeks 0 [.ref tM, .int v1, .int v2, .int v3, .int v4, .double 0, .double 0, .double 0] [] μ Q) : ∀ (n : Nat) (v1 : Int32) (v2 : Int32) (v3 : Int32) (v4 : Int32) (v5 : Int32) (v6 : Int32) (μ : p_M) (r : Int32 × p_M) (w7 : Value), ShM μ → F_X13_seeks_c109 KS n v1 v2 v3 v4 v5 v6 μ = some r → Q ((0, none), r.2) → p_Ev X (d + 2) M_X13_seeks 109 [.ref tM, .int v1, .int v2, .int v3, .int v4, .int v5, .int v6, w7] [] μ Q := by
  intro n
  induction n with
  | zero => intro v1 v2 v3 v4 v5 v6 μ r w7 hs h hQ; rw [F_X13_seeks_c109] at h; cases h
  | succ n ih =>
    intro v1 v2 v3 v4 v5 v6 μ r w7 hs h hQ
    rw [F_X13_seeks_c109] at h
    refine e_iload dX13_seeks_109 rfl ?_
    refine e_iconst (v := (3 : Int32)) dX13_seeks_111 rfl ?_
    refine e_ic_gt dX13_seeks_112 208 (by decide) (fun hc => ?_) (fun hc => ?_)
    · rw [if_pos hc] at h
      cases h
      exact e_vret dX13_seeks_208 rfl hQ
    · rw [if_neg hc] at h
      refine e_iconst (v := (0 : Int32)) dX13_seeks_115 rfl ?_
      refine e_istore dX13_seeks_116 (Nat.le_of_ble_eq_true rfl) rfl ?_
      exact E_X13_seeks_c118 hPS hKS ih p_fu _ _ _ _ _ _ _ _ _ hs h hQ
def F_X13_seeks_c100 (KS : Int32 → Int32 → Int32 → Int32 → p_M → Option (Int32 × p_M)) (v1 : Int32) (v2 : Int32) (v3 : Int32) (v4 : Int32) (v5 : Int32) (μ : p_M) : Option (Int32 × p_M) :=
  if ¬ v2 = v3
  then (F_X13_seeks_c109 KS p_fu v1 v2 v3 v4 v5 (0 : Int32) μ)
  else (some (0, μ))
theorem P_X13_seeks_c100 {KS : Int32 → Int32 → Int32 → Int32 → p_M → Option (Int32 × p_M)} (hPS : ∀ (v1 : Int32) (v2 : Int32) (v3 : Int32) (v4 : Int32) (μ : p_M) (r : Int32 × p_M), KS v1 v2 v3 v4 μ = some r → Sm μ r.2) {v1 : Int32} {v2 : Int32} {v3 : Int32} {v4 : Int32} {v5 : Int32} {μ : p_M} {r : Int32 × p_M} (h : F_X13_seeks_c100 KS v1 v2 v3 v4 v5 μ = some r) : Sm μ r.2 := by
  unfold F_X13_seeks_c100 at h
  by_cases hc : ¬ v2 = v3
  · rw [if_pos hc] at h
    exact Sm_trans (Sm_refl μ) (P_X13_seeks_c109 hPS p_fu _ _ _ _ _ _ _ _ h)
  · rw [if_neg hc] at h
    cases h
    exact (Sm_refl μ)
theorem E_X13_seeks_c100 {X : p_X} {d : Nat} {Q : p_R → Prop} {KS : Int32 → Int32 → Int32 → Int32 → p_M → Option (Int32 × p_M)} (hPS : ∀ (v1 : Int32) (v2 : Int32) (v3 : Int32) (v4 : Int32) (μ : p_M) (r : Int32 × p_M), KS v1 v2 v3 v4 μ = some r → Sm μ r.2) (hKS : ∀ (Q : p_R → Prop) (v1 : Int32) (v2 : Int32) (v3 : Int32) (v4 : Int32) (μ : p_M) (r : Int32 × p_M), ShM μ → KS v1 v2 v3 v4 μ = some r → Q ((0, none), r.2) → p_Ev X (d + 1) M_X13_seeks 0 [.ref tM, .int v1, .int v2, .int v3, .int v4, .double 0, .double 0, .double 0] [] μ Q) {v1 : Int32} {v2 : Int32} {v3 : Int32} {v4 : Int32} {v5 : Int32} {w6 : Value} {w7 : Value} {μ : p_M} {r : Int32 × p_M} (hs : ShM μ) (h : F_X13_seeks_c100 KS v1 v2 v3 v4 v5 μ = some r) (hQ : Q ((0, none), r.2)) : p_Ev X (d + 2) M_X13_seeks 100 [.ref tM, .int v1, .int v2, .int v3, .int v4, .int v5, w6, w7] [] μ Q := by
  unfold F_X13_seeks_c100 at h
  refine e_iload_n dX13_seeks_100 rfl ?_
  refine e_iload_n dX13_seeks_101 rfl ?_
  refine e_ic_ne dX13_seeks_102 106 (by decide) (fun hc => ?_) (fun hc => ?_)
  · rw [if_pos hc] at h
    refine e_iconst (v := (0 : Int32)) dX13_seeks_106 rfl ?_
    refine e_istore dX13_seeks_107 (Nat.le_of_ble_eq_true rfl) rfl ?_
    exact E_X13_seeks_c109 hPS hKS p_fu _ _ _ _ _ _ _ _ _ hs h hQ
  · rw [if_neg hc] at h
    cases h
    exact e_vret dX13_seeks_105 rfl hQ
def F_X13_seeks_c74 (KS : Int32 → Int32 → Int32 → Int32 → p_M → Option (Int32 × p_M)) : Nat → Int32 → Int32 → Int32 → Int32 → Int32 → Int32 → p_M → Option (Int32 × p_M)
  | 0, _, _, _, _, _, _, _ => none
  | n + 1, v1, v2, v3, v4, v5, v6, μ =>
    if v2 ≤ v6
    then (F_X13_seeks_c100 KS v1 v2 v3 v4 v5 μ)
    else (p_ok (¬ v6 < 0 ∧ v6.toNatClampNeg < 6)
      (p_ok (¬ v6 < 0 ∧ v6.toNatClampNeg < 6)
      (F_X13_seeks_c74 KS n v1 v2 v3 v4 v5 (v6 + (1 : Int32)) (sI μ (aM 17) v6.toNatClampNeg (mI μ (aM 16) v6.toNatClampNeg)))))
theorem P_X13_seeks_c74 {KS : Int32 → Int32 → Int32 → Int32 → p_M → Option (Int32 × p_M)} (hPS : ∀ (v1 : Int32) (v2 : Int32) (v3 : Int32) (v4 : Int32) (μ : p_M) (r : Int32 × p_M), KS v1 v2 v3 v4 μ = some r → Sm μ r.2) : ∀ (n : Nat) (v1 : Int32) (v2 : Int32) (v3 : Int32) (v4 : Int32) (v5 : Int32) (v6 : Int32) (μ : p_M) (r : Int32 × p_M), F_X13_seeks_c74 KS n v1 v2 v3 v4 v5 v6 μ = some r → Sm μ r.2 := by
  intro n
  induction n with
  | zero => intro v1 v2 v3 v4 v5 v6 μ r h; rw [F_X13_seeks_c74] at h; cases h
  | succ n ih =>
    intro v1 v2 v3 v4 v5 v6 μ r h
    rw [F_X13_seeks_c74] at h
    by_cases hc : v2 ≤ v6
    · rw [if_pos hc] at h
      exact Sm_trans (Sm_refl μ) (P_X13_seeks_c100 hPS h)
    · rw [if_neg hc] at h
      obtain ⟨hc, h⟩ := p_ok_some h
      obtain ⟨hc, h⟩ := p_ok_some h
      exact Sm_trans (Sm_set (Sm_refl μ) (by decide)) (ih _ _ _ _ _ _ _ _ h)
theorem E_X13_seeks_c74 {X : p_X} {d : Nat} {Q : p_R → Prop} {KS : Int32 → Int32 → Int32 → Int32 → p_M → Option (Int32 × p_M)} (hPS : ∀ (v1 : Int32) (v2 : Int32) (v3 : Int32) (v4 : Int32) (μ : p_M) (r : Int32 × p_M), KS v1 v2 v3 v4 μ = some r → Sm μ r.2) (hKS : ∀ (Q : p_R → Prop) (v1 : Int32) (v2 : Int32) (v3 : Int32) (v4 : Int32) (μ : p_M) (r : Int32 × p_M), ShM μ → KS v1 v2 v3 v4 μ = some r → Q ((0, none), r.2) → p_Ev X (d + 1) M_X13_seeks 0 [.ref tM, .int v1, .int v2, .int v3, .int v4, .double 0, .double 0, .double 0] [] μ Q) : ∀ (n : Nat) (v1 : Int32) (v2 : Int32) (v3 : Int32) (v4 : Int32) (v5 : Int32) (v6 : Int32) (μ : p_M) (r : Int32 × p_M) (w7 : Value), ShM μ → F_X13_seeks_c74 KS n v1 v2 v3 v4 v5 v6 μ = some r → Q ((0, none), r.2) → p_Ev X (d + 2) M_X13_seeks 74 [.ref tM, .int v1, .int v2, .int v3, .int v4, .int v5, .int v6, w7] [] μ Q := by
  intro n
  induction n with
  | zero => intro v1 v2 v3 v4 v5 v6 μ r w7 hs h hQ; rw [F_X13_seeks_c74] at h; cases h
  | succ n ih =>
    intro v1 v2 v3 v4 v5 v6 μ r w7 hs h hQ
    rw [F_X13_seeks_c74] at h
    refine e_iload dX13_seeks_74 rfl ?_
    refine e_iload_n dX13_seeks_76 rfl ?_
    refine e_ic_ge dX13_seeks_77 100 (by decide) (fun hc => ?_) (fun hc => ?_)
    · rw [if_pos hc] at h
      exact E_X13_seeks_c100 hPS hKS hs h hQ
    · rw [if_neg hc] at h
      refine e_aload_n dX13_seeks_80 rfl ?_
      refine e_getR dX13_seeks_81 rfl rfl hs.1 hs.2.1 (hs.2.2.2 17 (by decide) rfl).1 ?_
      refine e_iload dX13_seeks_84 rfl ?_
      refine e_aload_n dX13_seeks_86 rfl ?_
      refine e_getR dX13_seeks_87 rfl rfl hs.1 hs.2.1 (hs.2.2.2 16 (by decide) rfl).1 ?_
      refine e_iload dX13_seeks_90 rfl ?_
      obtain ⟨hc, h⟩ := p_ok_some h
      refine e_iald dX13_seeks_92 (Nat.lt_trans (hs.2.2.2 16 (by decide) rfl).2.2.2 hs.2.2.1) (hs.2.2.2 16 (by decide) rfl).2.1 (hs.2.2.2 16 (by decide) rfl).2.2.1 (hs.2.2.2 16 (by decide) rfl).2.2.2 hc ?_
      obtain ⟨hc, h⟩ := p_ok_some h
      refine e_iast dX13_seeks_93 (hs.2.2.2 17 (by decide) rfl).2.1 (hs.2.2.2 17 (by decide) rfl).2.2.1 (hs.2.2.2 17 (by decide) rfl).2.2.2 hc ?_
      refine e_iinc (v := (1 : Int32)) dX13_seeks_94 rfl rfl rfl ?_
      refine e_goto dX13_seeks_97 74 (by decide) ?_
      exact ih _ _ _ _ _ _ _ _ _ hs h hQ
def F_X13_seeks_c60 (KS : Int32 → Int32 → Int32 → Int32 → p_M → Option (Int32 × p_M)) (v1 : Int32) (v2 : Int32) (v3 : Int32) (v4 : Int32) (v5 : Int32) (μ : p_M) : Option (Int32 × p_M) :=
  F_X13_seeks_c74 KS p_fu v1 v2 v3 v4 v5 (0 : Int32) (sI (sI μ tM 18 v4) tM 19 v2)
theorem P_X13_seeks_c60 {KS : Int32 → Int32 → Int32 → Int32 → p_M → Option (Int32 × p_M)} (hPS : ∀ (v1 : Int32) (v2 : Int32) (v3 : Int32) (v4 : Int32) (μ : p_M) (r : Int32 × p_M), KS v1 v2 v3 v4 μ = some r → Sm μ r.2) {v1 : Int32} {v2 : Int32} {v3 : Int32} {v4 : Int32} {v5 : Int32} {μ : p_M} {r : Int32 × p_M} (h : F_X13_seeks_c60 KS v1 v2 v3 v4 v5 μ = some r) : Sm μ r.2 := by
  unfold F_X13_seeks_c60 at h
  exact Sm_trans (Sm_set (Sm_set (Sm_refl μ) (by decide)) (by decide)) (P_X13_seeks_c74 hPS p_fu _ _ _ _ _ _ _ _ h)
theorem E_X13_seeks_c60 {X : p_X} {d : Nat} {Q : p_R → Prop} {KS : Int32 → Int32 → Int32 → Int32 → p_M → Option (Int32 × p_M)} (hPS : ∀ (v1 : Int32) (v2 : Int32) (v3 : Int32) (v4 : Int32) (μ : p_M) (r : Int32 × p_M), KS v1 v2 v3 v4 μ = some r → Sm μ r.2) (hKS : ∀ (Q : p_R → Prop) (v1 : Int32) (v2 : Int32) (v3 : Int32) (v4 : Int32) (μ : p_M) (r : Int32 × p_M), ShM μ → KS v1 v2 v3 v4 μ = some r → Q ((0, none), r.2) → p_Ev X (d + 1) M_X13_seeks 0 [.ref tM, .int v1, .int v2, .int v3, .int v4, .double 0, .double 0, .double 0] [] μ Q) {v1 : Int32} {v2 : Int32} {v3 : Int32} {v4 : Int32} {v5 : Int32} {w6 : Value} {w7 : Value} {μ : p_M} {r : Int32 × p_M} (hs : ShM μ) (h : F_X13_seeks_c60 KS v1 v2 v3 v4 v5 μ = some r) (hQ : Q ((0, none), r.2)) : p_Ev X (d + 2) M_X13_seeks 60 [.ref tM, .int v1, .int v2, .int v3, .int v4, .int v5, w6, w7] [] μ Q := by
  unfold F_X13_seeks_c60 at h
  refine e_aload_n dX13_seeks_60 rfl ?_
  refine e_iload dX13_seeks_61 rfl ?_
  refine e_putI dX13_seeks_63 rfl ⟨rfl, rfl, fun h => by cases h⟩ (fun h => by cases h) hs.1 hs.2.1 ?_
  refine e_aload_n dX13_seeks_66 rfl ?_
  refine e_iload_n dX13_seeks_67 rfl ?_
  refine e_putI dX13_seeks_68 rfl ⟨rfl, rfl, fun h => by cases h⟩ (fun h => by cases h) hs.1 hs.2.1 ?_
  refine e_iconst (v := (0 : Int32)) dX13_seeks_71 rfl ?_
  refine e_istore dX13_seeks_72 (Nat.le_of_ble_eq_true rfl) rfl ?_
  exact E_X13_seeks_c74 hPS hKS p_fu _ _ _ _ _ _ _ _ _ hs h hQ
def F_X13_seeks_b (KS : Int32 → Int32 → Int32 → Int32 → p_M → Option (Int32 × p_M)) (v1 : Int32) (v2 : Int32) (v3 : Int32) (v4 : Int32) (μ : p_M) : Option (Int32 × p_M) :=
  (F_X13_meetsIt ((41 : Int32) + v2) (mI μ tM 20) (mI μ tM 21) (mI μ tM 22) μ).bind fun q1 =>
  if q1.1 = 0
  then (F_X13_seeks_c100 KS v1 v2 v3 v4 ((41 : Int32) + v2) q1.2)
  else (if (mI q1.2 tM 18) < 0
    then (F_X13_seeks_c60 KS v1 v2 v3 v4 ((41 : Int32) + v2) q1.2)
    else (if v4 < (mI q1.2 tM 18)
      then (F_X13_seeks_c60 KS v1 v2 v3 v4 ((41 : Int32) + v2) q1.2)
      else (if ¬ v4 = (mI q1.2 tM 18)
        then (F_X13_seeks_c100 KS v1 v2 v3 v4 ((41 : Int32) + v2) q1.2)
        else (if (mI q1.2 tM 19) ≤ v2
          then (F_X13_seeks_c100 KS v1 v2 v3 v4 ((41 : Int32) + v2) q1.2)
          else (F_X13_seeks_c60 KS v1 v2 v3 v4 ((41 : Int32) + v2) q1.2)))))
theorem P_X13_seeks_b {KS : Int32 → Int32 → Int32 → Int32 → p_M → Option (Int32 × p_M)} (hPS : ∀ (v1 : Int32) (v2 : Int32) (v3 : Int32) (v4 : Int32) (μ : p_M) (r : Int32 × p_M), KS v1 v2 v3 v4 μ = some r → Sm μ r.2) {v1 : Int32} {v2 : Int32} {v3 : Int32} {v4 : Int32} {μ : p_M} {r : Int32 × p_M} (h : F_X13_seeks_b KS v1 v2 v3 v4 μ = some r) : Sm μ r.2 := by
  unfold F_X13_seeks_b at h
  obtain ⟨q1, hq1, h⟩ := p_bd h
  by_cases hc : q1.1 = 0
  · rw [if_pos hc] at h
    exact Sm_trans (Sm_trans (Sm_refl μ) (P_X13_meetsIt (r := q1) hq1)) (P_X13_seeks_c100 hPS h)
  · rw [if_neg hc] at h
    by_cases hc : (mI q1.2 tM 18) < 0
    · rw [if_pos hc] at h
      exact Sm_trans (Sm_trans (Sm_refl μ) (P_X13_meetsIt (r := q1) hq1)) (P_X13_seeks_c60 hPS h)
    · rw [if_neg hc] at h
      by_cases hc : v4 < (mI q1.2 tM 18)
      · rw [if_pos hc] at h
        exact Sm_trans (Sm_trans (Sm_refl μ) (P_X13_meetsIt (r := q1) hq1)) (P_X13_seeks_c60 hPS h)
      · rw [if_neg hc] at h
        by_cases hc : ¬ v4 = (mI q1.2 tM 18)
        · rw [if_pos hc] at h
          exact Sm_trans (Sm_trans (Sm_refl μ) (P_X13_meetsIt (r := q1) hq1)) (P_X13_seeks_c100 hPS h)
        · rw [if_neg hc] at h
          by_cases hc : (mI q1.2 tM 19) ≤ v2
          · rw [if_pos hc] at h
            exact Sm_trans (Sm_trans (Sm_refl μ) (P_X13_meetsIt (r := q1) hq1)) (P_X13_seeks_c100 hPS h)
          · rw [if_neg hc] at h
            exact Sm_trans (Sm_trans (Sm_refl μ) (P_X13_meetsIt (r := q1) hq1)) (P_X13_seeks_c60 hPS h)
theorem E_X13_seeks_b {X : p_X} {d : Nat} {Q : p_R → Prop} {KS : Int32 → Int32 → Int32 → Int32 → p_M → Option (Int32 × p_M)} (hPS : ∀ (v1 : Int32) (v2 : Int32) (v3 : Int32) (v4 : Int32) (μ : p_M) (r : Int32 × p_M), KS v1 v2 v3 v4 μ = some r → Sm μ r.2) (hKS : ∀ (Q : p_R → Prop) (v1 : Int32) (v2 : Int32) (v3 : Int32) (v4 : Int32) (μ : p_M) (r : Int32 × p_M), ShM μ → KS v1 v2 v3 v4 μ = some r → Q ((0, none), r.2) → p_Ev X (d + 1) M_X13_seeks 0 [.ref tM, .int v1, .int v2, .int v3, .int v4, .double 0, .double 0, .double 0] [] μ Q) {v1 : Int32} {v2 : Int32} {v3 : Int32} {v4 : Int32} {μ : p_M} {r : Int32 × p_M} (hs : ShM μ) (h : F_X13_seeks_b KS v1 v2 v3 v4 μ = some r) (hQ : Q ((0, none), r.2)) : p_Ev X (d + 2) M_X13_seeks 0 [.ref tM, .int v1, .int v2, .int v3, .int v4, .double 0, .double 0, .double 0] [] μ Q := by
  unfold F_X13_seeks_b at h
  refine e_bipush (v := (41 : Int32)) dX13_seeks_0 rfl ?_
  refine e_iload_n dX13_seeks_2 rfl ?_
  refine e_iadd dX13_seeks_3 ?_
  refine e_istore dX13_seeks_4 (Nat.le_of_ble_eq_true rfl) rfl ?_
  refine e_aload_n dX13_seeks_6 rfl ?_
  refine e_iload dX13_seeks_7 rfl ?_
  refine e_aload_n dX13_seeks_9 rfl ?_
  refine e_getI dX13_seeks_10 rfl rfl hs.1 hs.2.1 ?_
  refine e_aload_n dX13_seeks_13 rfl ?_
  refine e_getI dX13_seeks_14 rfl rfl hs.1 hs.2.1 ?_
  refine e_aload_n dX13_seeks_17 rfl ?_
  refine e_getI dX13_seeks_18 rfl rfl hs.1 hs.2.1 ?_
  obtain ⟨q1, hq1, h⟩ := p_bd h
  refine e_cV dX13_seeks_21 rfl rfl ⟨rfl, rfl, by decide⟩ rfl hs.1 hs.2.1 (E_X13_meetsIt hs hq1 ⟨rfl, ?_⟩)
  have hs := ShM_of (P_X13_meetsIt (r := q1) hq1) hs
  show p_Ev X (d + 2) M_X13_seeks 24 [.ref tM, .int v1, .int v2, .int v3, .int v4, .int ((41 : Int32) + v2), .double 0, .double 0] [.int q1.1] q1.2 Q
  refine e_if_eq dX13_seeks_24 100 (by decide) (fun hc => ?_) (fun hc => ?_)
  · rw [if_pos hc] at h
    exact E_X13_seeks_c100 hPS hKS hs h hQ
  · rw [if_neg hc] at h
    refine e_aload_n dX13_seeks_27 rfl ?_
    refine e_getI dX13_seeks_28 rfl rfl hs.1 hs.2.1 ?_
    refine e_if_lt dX13_seeks_31 60 (by decide) (fun hc => ?_) (fun hc => ?_)
    · rw [if_pos hc] at h
      exact E_X13_seeks_c60 hPS hKS hs h hQ
    · rw [if_neg hc] at h
      refine e_iload dX13_seeks_34 rfl ?_
      refine e_aload_n dX13_seeks_36 rfl ?_
      refine e_getI dX13_seeks_37 rfl rfl hs.1 hs.2.1 ?_
      refine e_ic_lt dX13_seeks_40 60 (by decide) (fun hc => ?_) (fun hc => ?_)
      · rw [if_pos hc] at h
        exact E_X13_seeks_c60 hPS hKS hs h hQ
      · rw [if_neg hc] at h
        refine e_iload dX13_seeks_43 rfl ?_
        refine e_aload_n dX13_seeks_45 rfl ?_
        refine e_getI dX13_seeks_46 rfl rfl hs.1 hs.2.1 ?_
        refine e_ic_ne dX13_seeks_49 100 (by decide) (fun hc => ?_) (fun hc => ?_)
        · rw [if_pos hc] at h
          exact E_X13_seeks_c100 hPS hKS hs h hQ
        · rw [if_neg hc] at h
          refine e_iload_n dX13_seeks_52 rfl ?_
          refine e_aload_n dX13_seeks_53 rfl ?_
          refine e_getI dX13_seeks_54 rfl rfl hs.1 hs.2.1 ?_
          refine e_ic_ge dX13_seeks_57 100 (by decide) (fun hc => ?_) (fun hc => ?_)
          · rw [if_pos hc] at h
            exact E_X13_seeks_c100 hPS hKS hs h hQ
          · rw [if_neg hc] at h
            exact E_X13_seeks_c60 hPS hKS hs h hQ
def F_X13_seeks : Nat → Int32 → Int32 → Int32 → Int32 → p_M → Option (Int32 × p_M)
  | 0, _, _, _, _, _ => none
  | n + 1, v1, v2, v3, v4, μ => F_X13_seeks_b (F_X13_seeks n) v1 v2 v3 v4 μ
theorem P_X13_seeks : ∀ (n : Nat) (v1 : Int32) (v2 : Int32) (v3 : Int32) (v4 : Int32) (μ : p_M) (r : Int32 × p_M), F_X13_seeks n v1 v2 v3 v4 μ = some r → Sm μ r.2 := by
  intro n
  induction n with
  | zero => intro v1 v2 v3 v4 μ r h; rw [F_X13_seeks] at h; cases h
  | succ n ih =>
    intro v1 v2 v3 v4 μ r h
    rw [F_X13_seeks] at h
    exact P_X13_seeks_b ih h
theorem E_X13_seeks {X : p_X} : ∀ (n d : Nat) (Q : p_R → Prop) (v1 : Int32) (v2 : Int32) (v3 : Int32) (v4 : Int32) (μ : p_M) (r : Int32 × p_M), ShM μ → F_X13_seeks n v1 v2 v3 v4 μ = some r → Q ((0, none), r.2) → p_Ev X (d + n + 2) M_X13_seeks 0 [.ref tM, .int v1, .int v2, .int v3, .int v4, .double 0, .double 0, .double 0] [] μ Q := by
  intro n
  induction n with
  | zero => intro d Q v1 v2 v3 v4 μ r hs h hQ; rw [F_X13_seeks] at h; cases h
  | succ n ih =>
    intro d Q v1 v2 v3 v4 μ r hs h hQ
    rw [F_X13_seeks] at h
    exact E_X13_seeks_b (d := d + n + 1) (P_X13_seeks n) (fun Q v1 v2 v3 v4 μ r hs h hQ => ih d Q _ _ _ _ _ _ hs h hQ) hs h hQ
/-! X13_cheapestOf -/
def F_X13_cheapestOf_c54 (s0 : Int32) (μ : p_M) : Option (Int32 × p_M) :=
  p_ok (s0 = 0 ∨ s0 = 1) (some (s0, μ))
theorem P_X13_cheapestOf_c54 {s0 : Int32} {μ : p_M} {r : Int32 × p_M} (h : F_X13_cheapestOf_c54 s0 μ = some r) : Sm μ r.2 := by
  unfold F_X13_cheapestOf_c54 at h
  obtain ⟨hc, h⟩ := p_ok_some h
  cases h
  exact (Sm_refl μ)
theorem E_X13_cheapestOf_c54 {X : p_X} {d : Nat} {Q : p_R → Prop} {s0 : Int32} {w0 : Value} {w1 : Value} {w2 : Value} {w3 : Value} {w4 : Value} {w5 : Value} {μ : p_M} {r : Int32 × p_M} (hs : ShM μ) (h : F_X13_cheapestOf_c54 s0 μ = some r) (hQ : Q ((0, some (.int r.1)), r.2)) : p_Ev X (d + 11) M_X13_cheapestOf 54 [w0, w1, w2, w3, w4, w5] [.int s0] μ Q := by
  unfold F_X13_cheapestOf_c54 at h
  obtain ⟨hc, h⟩ := p_ok_some h
  cases h
  exact e_iretz dX13_cheapestOf_54 rfl hc hQ
def F_X13_cheapestOf (v1 : Int32) (v2 : Int32) (v3 : Int32) (v4 : Int32) (v5 : Int32) (μ : p_M) : Option (Int32 × p_M) :=
  (F_X13_begins (41 : Int32) v1 (sI (sI (sI (sI (sI μ tM 20 v2) tM 21 v3) tM 22 v4) tM 18 (-1)) tM 19 (0 : Int32))).bind fun q1 =>
  (F_X13_seeks 8 v1 (0 : Int32) v5 (0 : Int32) q1.2).bind fun q2 =>
  if (mI q2.2 tM 18) < 0
  then (F_X13_cheapestOf_c54 (0 : Int32) q2.2)
  else (F_X13_cheapestOf_c54 (1 : Int32) q2.2)
theorem P_X13_cheapestOf {v1 : Int32} {v2 : Int32} {v3 : Int32} {v4 : Int32} {v5 : Int32} {μ : p_M} {r : Int32 × p_M} (h : F_X13_cheapestOf v1 v2 v3 v4 v5 μ = some r) : Sm μ r.2 := by
  unfold F_X13_cheapestOf at h
  obtain ⟨q1, hq1, h⟩ := p_bd h
  obtain ⟨q2, hq2, h⟩ := p_bd h
  by_cases hc : (mI q2.2 tM 18) < 0
  · rw [if_pos hc] at h
    exact Sm_trans (Sm_trans (Sm_trans (Sm_set (Sm_set (Sm_set (Sm_set (Sm_set (Sm_refl μ) (by decide)) (by decide)) (by decide)) (by decide)) (by decide)) (P_X13_begins (r := q1) hq1)) (P_X13_seeks 8 _ _ _ _ _ _ hq2)) (P_X13_cheapestOf_c54 h)
  · rw [if_neg hc] at h
    exact Sm_trans (Sm_trans (Sm_trans (Sm_set (Sm_set (Sm_set (Sm_set (Sm_set (Sm_refl μ) (by decide)) (by decide)) (by decide)) (by decide)) (by decide)) (P_X13_begins (r := q1) hq1)) (P_X13_seeks 8 _ _ _ _ _ _ hq2)) (P_X13_cheapestOf_c54 h)
theorem E_X13_cheapestOf {X : p_X} {d : Nat} {Q : p_R → Prop} {v1 : Int32} {v2 : Int32} {v3 : Int32} {v4 : Int32} {v5 : Int32} {μ : p_M} {r : Int32 × p_M} (hs : ShM μ) (h : F_X13_cheapestOf v1 v2 v3 v4 v5 μ = some r) (hQ : Q ((0, some (.int r.1)), r.2)) : p_Ev X (d + 11) M_X13_cheapestOf 0 [.ref tM, .int v1, .int v2, .int v3, .int v4, .int v5] [] μ Q := by
  unfold F_X13_cheapestOf at h
  refine e_aload_n dX13_cheapestOf_0 rfl ?_
  refine e_iload_n dX13_cheapestOf_1 rfl ?_
  refine e_putI dX13_cheapestOf_2 rfl ⟨rfl, rfl, fun h => by cases h⟩ (fun h => by cases h) hs.1 hs.2.1 ?_
  refine e_aload_n dX13_cheapestOf_5 rfl ?_
  refine e_iload_n dX13_cheapestOf_6 rfl ?_
  refine e_putI dX13_cheapestOf_7 rfl ⟨rfl, rfl, fun h => by cases h⟩ (fun h => by cases h) hs.1 hs.2.1 ?_
  refine e_aload_n dX13_cheapestOf_10 rfl ?_
  refine e_iload dX13_cheapestOf_11 rfl ?_
  refine e_putI dX13_cheapestOf_13 rfl ⟨rfl, rfl, fun h => by cases h⟩ (fun h => by cases h) hs.1 hs.2.1 ?_
  refine e_aload_n dX13_cheapestOf_16 rfl ?_
  refine e_iconst (v := (-1)) dX13_cheapestOf_17 rfl ?_
  refine e_putI dX13_cheapestOf_18 rfl ⟨rfl, rfl, fun h => by cases h⟩ (fun h => by cases h) hs.1 hs.2.1 ?_
  refine e_aload_n dX13_cheapestOf_21 rfl ?_
  refine e_iconst (v := (0 : Int32)) dX13_cheapestOf_22 rfl ?_
  refine e_putI dX13_cheapestOf_23 rfl ⟨rfl, rfl, fun h => by cases h⟩ (fun h => by cases h) hs.1 hs.2.1 ?_
  refine e_aload_n dX13_cheapestOf_26 rfl ?_
  refine e_bipush (v := (41 : Int32)) dX13_cheapestOf_27 rfl ?_
  refine e_iload_n dX13_cheapestOf_29 rfl ?_
  obtain ⟨q1, hq1, h⟩ := p_bd h
  refine e_cV dX13_cheapestOf_30 rfl rfl ⟨rfl, rfl, by decide⟩ rfl hs.1 hs.2.1 (E_X13_begins hs hq1 ⟨rfl, ?_⟩)
  have hs := ShM_of (P_X13_begins (r := q1) hq1) hs
  show p_Ev X (d + 11) M_X13_cheapestOf 33 [.ref tM, .int v1, .int v2, .int v3, .int v4, .int v5] [] q1.2 Q
  refine e_aload_n dX13_cheapestOf_33 rfl ?_
  refine e_iload_n dX13_cheapestOf_34 rfl ?_
  refine e_iconst (v := (0 : Int32)) dX13_cheapestOf_35 rfl ?_
  refine e_iload dX13_cheapestOf_36 rfl ?_
  refine e_iconst (v := (0 : Int32)) dX13_cheapestOf_38 rfl ?_
  obtain ⟨q2, hq2, h⟩ := p_bd h
  refine e_cV dX13_cheapestOf_39 rfl rfl ⟨rfl, rfl, by decide⟩ rfl hs.1 hs.2.1 (E_X13_seeks 8 _ _ _ _ _ _ _ _ hs hq2 ⟨rfl, ?_⟩)
  have hs := ShM_of (P_X13_seeks 8 _ _ _ _ _ _ hq2) hs
  show p_Ev X (d + 11) M_X13_cheapestOf 42 [.ref tM, .int v1, .int v2, .int v3, .int v4, .int v5] [] q2.2 Q
  refine e_aload_n dX13_cheapestOf_42 rfl ?_
  refine e_getI dX13_cheapestOf_43 rfl rfl hs.1 hs.2.1 ?_
  refine e_if_lt dX13_cheapestOf_46 53 (by decide) (fun hc => ?_) (fun hc => ?_)
  · rw [if_pos hc] at h
    refine e_iconst (v := (0 : Int32)) dX13_cheapestOf_53 rfl ?_
    exact E_X13_cheapestOf_c54 hs h hQ
  · rw [if_neg hc] at h
    refine e_iconst (v := (1 : Int32)) dX13_cheapestOf_49 rfl ?_
    refine e_goto dX13_cheapestOf_50 54 (by decide) ?_
    exact E_X13_cheapestOf_c54 hs h hQ
/-! X13_cheapest -/
def F_X13_cheapest_c52 (μ : p_M) : Option (Int32 × p_M) :=
  some ((0 : Int32), μ)
theorem P_X13_cheapest_c52 {μ : p_M} {r : Int32 × p_M} (h : F_X13_cheapest_c52 μ = some r) : Sm μ r.2 := by
  unfold F_X13_cheapest_c52 at h
  cases h
  exact (Sm_refl μ)
theorem E_X13_cheapest_c52 {X : p_X} {d : Nat} {Q : p_R → Prop} {w0 : Value} {w1 : Value} {w2 : Value} {w3 : Value} {w4 : Value} {w5 : Value} {μ : p_M} {r : Int32 × p_M} (hs : ShM μ) (h : F_X13_cheapest_c52 μ = some r) (hQ : Q ((0, some (.int r.1)), r.2)) : p_Ev X (d + 12) M_X13_cheapest 52 [w0, w1, w2, w3, w4, w5] [] μ Q := by
  unfold F_X13_cheapest_c52 at h
  refine e_iconst (v := (0 : Int32)) dX13_cheapest_52 rfl ?_
  cases h
  exact e_ireti dX13_cheapest_53 rfl hQ
def F_X13_cheapest_c76 (s0 : Int32) (μ : p_M) : Option (Int32 × p_M) :=
  some (s0, μ)
theorem P_X13_cheapest_c76 {s0 : Int32} {μ : p_M} {r : Int32 × p_M} (h : F_X13_cheapest_c76 s0 μ = some r) : Sm μ r.2 := by
  unfold F_X13_cheapest_c76 at h
  cases h
  exact (Sm_refl μ)
theorem E_X13_cheapest_c76 {X : p_X} {d : Nat} {Q : p_R → Prop} {s0 : Int32} {w0 : Value} {w1 : Value} {w2 : Value} {w3 : Value} {w4 : Value} {w5 : Value} {μ : p_M} {r : Int32 × p_M} (hs : ShM μ) (h : F_X13_cheapest_c76 s0 μ = some r) (hQ : Q ((0, some (.int r.1)), r.2)) : p_Ev X (d + 12) M_X13_cheapest 76 [w0, w1, w2, w3, w4, w5] [.int s0] μ Q := by
  unfold F_X13_cheapest_c76 at h
  cases h
  exact e_ireti dX13_cheapest_76 rfl hQ
def F_X13_cheapest_c45 (v1 : Int32) (v2 : Int32) (v3 : Int32) (v4 : Int32) (v5 : Int32) (s0 : Int32) (μ : p_M) : Option (Int32 × p_M) :=
  (F_X13_throwsIf s0 (2 : Int32) μ).bind fun q5 =>
  if q5.1 = 0
  then ((F_X13_cheapestOf v1 v2 v3 v4 v5 q5.2).bind fun q6 =>
    if q6.1 = 0
    then (F_X13_cheapest_c76 (-1) q6.2)
    else (F_X13_cheapest_c76 (mI q6.2 tM 18) q6.2))
  else (F_X13_cheapest_c52 q5.2)
theorem P_X13_cheapest_c45 {v1 : Int32} {v2 : Int32} {v3 : Int32} {v4 : Int32} {v5 : Int32} {s0 : Int32} {μ : p_M} {r : Int32 × p_M} (h : F_X13_cheapest_c45 v1 v2 v3 v4 v5 s0 μ = some r) : Sm μ r.2 := by
  unfold F_X13_cheapest_c45 at h
  obtain ⟨q5, hq5, h⟩ := p_bd h
  by_cases hc : q5.1 = 0
  · rw [if_pos hc] at h
    obtain ⟨q6, hq6, h⟩ := p_bd h
    by_cases hc : q6.1 = 0
    · rw [if_pos hc] at h
      exact Sm_trans (Sm_trans (Sm_trans (Sm_refl μ) (P_X13_throwsIf (r := q5) hq5)) (P_X13_cheapestOf (r := q6) hq6)) (P_X13_cheapest_c76 h)
    · rw [if_neg hc] at h
      exact Sm_trans (Sm_trans (Sm_trans (Sm_refl μ) (P_X13_throwsIf (r := q5) hq5)) (P_X13_cheapestOf (r := q6) hq6)) (P_X13_cheapest_c76 h)
  · rw [if_neg hc] at h
    exact Sm_trans (Sm_trans (Sm_refl μ) (P_X13_throwsIf (r := q5) hq5)) (P_X13_cheapest_c52 h)
theorem E_X13_cheapest_c45 {X : p_X} {d : Nat} {Q : p_R → Prop} {v1 : Int32} {v2 : Int32} {v3 : Int32} {v4 : Int32} {v5 : Int32} {s0 : Int32} {μ : p_M} {r : Int32 × p_M} (hs : ShM μ) (h : F_X13_cheapest_c45 v1 v2 v3 v4 v5 s0 μ = some r) (hQ : Q ((0, some (.int r.1)), r.2)) : p_Ev X (d + 12) M_X13_cheapest 45 [.ref tM, .int v1, .int v2, .int v3, .int v4, .int v5] [.int s0, .ref tM] μ Q := by
  unfold F_X13_cheapest_c45 at h
  refine e_iconst (v := (2 : Int32)) dX13_cheapest_45 rfl ?_
  obtain ⟨q5, hq5, h⟩ := p_bd h
  refine e_cV dX13_cheapest_46 rfl rfl ⟨rfl, rfl, by decide⟩ rfl hs.1 hs.2.1 (E_X13_throwsIf hs hq5 ⟨rfl, ?_⟩)
  have hs := ShM_of (P_X13_throwsIf (r := q5) hq5) hs
  show p_Ev X (d + 12) M_X13_cheapest 49 [.ref tM, .int v1, .int v2, .int v3, .int v4, .int v5] [.int q5.1] q5.2 Q
  refine e_if_eq dX13_cheapest_49 54 (by decide) (fun hc => ?_) (fun hc => ?_)
  · rw [if_pos hc] at h
    refine e_aload_n dX13_cheapest_54 rfl ?_
    refine e_iload_n dX13_cheapest_55 rfl ?_
    refine e_iload_n dX13_cheapest_56 rfl ?_
    refine e_iload_n dX13_cheapest_57 rfl ?_
    refine e_iload dX13_cheapest_58 rfl ?_
    refine e_iload dX13_cheapest_60 rfl ?_
    obtain ⟨q6, hq6, h⟩ := p_bd h
    refine e_cV dX13_cheapest_62 rfl rfl ⟨rfl, rfl, by decide⟩ rfl hs.1 hs.2.1 (E_X13_cheapestOf hs hq6 ⟨rfl, ?_⟩)
    have hs := ShM_of (P_X13_cheapestOf (r := q6) hq6) hs
    show p_Ev X (d + 12) M_X13_cheapest 65 [.ref tM, .int v1, .int v2, .int v3, .int v4, .int v5] [.int q6.1] q6.2 Q
    refine e_if_eq dX13_cheapest_65 75 (by decide) (fun hc => ?_) (fun hc => ?_)
    · rw [if_pos hc] at h
      refine e_iconst (v := (-1)) dX13_cheapest_75 rfl ?_
      exact E_X13_cheapest_c76 hs h hQ
    · rw [if_neg hc] at h
      refine e_aload_n dX13_cheapest_68 rfl ?_
      refine e_getI dX13_cheapest_69 rfl rfl hs.1 hs.2.1 ?_
      refine e_goto dX13_cheapest_72 76 (by decide) ?_
      exact E_X13_cheapest_c76 hs h hQ
  · rw [if_neg hc] at h
    exact E_X13_cheapest_c52 hs h hQ
def F_X13_cheapest_c40 (v1 : Int32) (v2 : Int32) (v3 : Int32) (v4 : Int32) (v5 : Int32) (μ : p_M) : Option (Int32 × p_M) :=
  F_X13_cheapest_c45 v1 v2 v3 v4 v5 (1 : Int32) μ
theorem P_X13_cheapest_c40 {v1 : Int32} {v2 : Int32} {v3 : Int32} {v4 : Int32} {v5 : Int32} {μ : p_M} {r : Int32 × p_M} (h : F_X13_cheapest_c40 v1 v2 v3 v4 v5 μ = some r) : Sm μ r.2 := by
  unfold F_X13_cheapest_c40 at h
  exact Sm_trans (Sm_refl μ) (P_X13_cheapest_c45 h)
theorem E_X13_cheapest_c40 {X : p_X} {d : Nat} {Q : p_R → Prop} {v1 : Int32} {v2 : Int32} {v3 : Int32} {v4 : Int32} {v5 : Int32} {μ : p_M} {r : Int32 × p_M} (hs : ShM μ) (h : F_X13_cheapest_c40 v1 v2 v3 v4 v5 μ = some r) (hQ : Q ((0, some (.int r.1)), r.2)) : p_Ev X (d + 12) M_X13_cheapest 40 [.ref tM, .int v1, .int v2, .int v3, .int v4, .int v5] [.ref tM] μ Q := by
  unfold F_X13_cheapest_c40 at h
  refine e_iconst (v := (1 : Int32)) dX13_cheapest_40 rfl ?_
  refine e_goto dX13_cheapest_41 45 (by decide) ?_
  exact E_X13_cheapest_c45 hs h hQ
def F_X13_cheapest (v1 : Int32) (v2 : Int32) (v3 : Int32) (v4 : Int32) (v5 : Int32) (μ : p_M) : Option (Int32 × p_M) :=
  (F_X13_noCloth v1 (sI μ tM 0 (0 : Int32))).bind fun q1 =>
  (F_X13_throwsIf q1.1 (1 : Int32) q1.2).bind fun q2 =>
  if ¬ q2.1 = 0
  then (F_X13_cheapest_c52 q2.2)
  else ((F_X13_noWish v2 v3 v4 q2.2).bind fun q3 =>
    if ¬ q3.1 = 0
    then (F_X13_cheapest_c40 v1 v2 v3 v4 v5 q3.2)
    else ((F_X13_in v5 (0 : Int32) (6 : Int32) q3.2).bind fun q4 =>
      if ¬ q4.1 = 0
      then (F_X13_cheapest_c45 v1 v2 v3 v4 v5 (0 : Int32) q4.2)
      else (F_X13_cheapest_c40 v1 v2 v3 v4 v5 q4.2)))
theorem P_X13_cheapest {v1 : Int32} {v2 : Int32} {v3 : Int32} {v4 : Int32} {v5 : Int32} {μ : p_M} {r : Int32 × p_M} (h : F_X13_cheapest v1 v2 v3 v4 v5 μ = some r) : Sm μ r.2 := by
  unfold F_X13_cheapest at h
  obtain ⟨q1, hq1, h⟩ := p_bd h
  obtain ⟨q2, hq2, h⟩ := p_bd h
  by_cases hc : ¬ q2.1 = 0
  · rw [if_pos hc] at h
    exact Sm_trans (Sm_trans (Sm_trans (Sm_set (Sm_refl μ) (by decide)) (P_X13_noCloth (r := q1) hq1)) (P_X13_throwsIf (r := q2) hq2)) (P_X13_cheapest_c52 h)
  · rw [if_neg hc] at h
    obtain ⟨q3, hq3, h⟩ := p_bd h
    by_cases hc : ¬ q3.1 = 0
    · rw [if_pos hc] at h
      exact Sm_trans (Sm_trans (Sm_trans (Sm_trans (Sm_set (Sm_refl μ) (by decide)) (P_X13_noCloth (r := q1) hq1)) (P_X13_throwsIf (r := q2) hq2)) (P_X13_noWish (r := q3) hq3)) (P_X13_cheapest_c40 h)
    · rw [if_neg hc] at h
      obtain ⟨q4, hq4, h⟩ := p_bd h
      by_cases hc : ¬ q4.1 = 0
      · rw [if_pos hc] at h
        exact Sm_trans (Sm_trans (Sm_trans (Sm_trans (Sm_trans (Sm_set (Sm_refl μ) (by decide)) (P_X13_noCloth (r := q1) hq1)) (P_X13_throwsIf (r := q2) hq2)) (P_X13_noWish (r := q3) hq3)) (P_X13_in (r := q4) hq4)) (P_X13_cheapest_c45 h)
      · rw [if_neg hc] at h
        exact Sm_trans (Sm_trans (Sm_trans (Sm_trans (Sm_trans (Sm_set (Sm_refl μ) (by decide)) (P_X13_noCloth (r := q1) hq1)) (P_X13_throwsIf (r := q2) hq2)) (P_X13_noWish (r := q3) hq3)) (P_X13_in (r := q4) hq4)) (P_X13_cheapest_c40 h)
theorem E_X13_cheapest {X : p_X} {d : Nat} {Q : p_R → Prop} {v1 : Int32} {v2 : Int32} {v3 : Int32} {v4 : Int32} {v5 : Int32} {μ : p_M} {r : Int32 × p_M} (hs : ShM μ) (h : F_X13_cheapest v1 v2 v3 v4 v5 μ = some r) (hQ : Q ((0, some (.int r.1)), r.2)) : p_Ev X (d + 12) M_X13_cheapest 0 [.ref tM, .int v1, .int v2, .int v3, .int v4, .int v5] [] μ Q := by
  unfold F_X13_cheapest at h
  refine e_aload_n dX13_cheapest_0 rfl ?_
  refine e_iconst (v := (0 : Int32)) dX13_cheapest_1 rfl ?_
  refine e_putI dX13_cheapest_2 rfl ⟨rfl, rfl, fun h => by cases h⟩ (fun h => by cases h) hs.1 hs.2.1 ?_
  refine e_aload_n dX13_cheapest_5 rfl ?_
  refine e_aload_n dX13_cheapest_6 rfl ?_
  refine e_iload_n dX13_cheapest_7 rfl ?_
  obtain ⟨q1, hq1, h⟩ := p_bd h
  refine e_cV dX13_cheapest_8 rfl rfl ⟨rfl, rfl, by decide⟩ rfl hs.1 hs.2.1 (E_X13_noCloth hs hq1 ⟨rfl, ?_⟩)
  have hs := ShM_of (P_X13_noCloth (r := q1) hq1) hs
  show p_Ev X (d + 12) M_X13_cheapest 11 [.ref tM, .int v1, .int v2, .int v3, .int v4, .int v5] [.int q1.1, .ref tM] q1.2 Q
  refine e_iconst (v := (1 : Int32)) dX13_cheapest_11 rfl ?_
  obtain ⟨q2, hq2, h⟩ := p_bd h
  refine e_cV dX13_cheapest_12 rfl rfl ⟨rfl, rfl, by decide⟩ rfl hs.1 hs.2.1 (E_X13_throwsIf hs hq2 ⟨rfl, ?_⟩)
  have hs := ShM_of (P_X13_throwsIf (r := q2) hq2) hs
  show p_Ev X (d + 12) M_X13_cheapest 15 [.ref tM, .int v1, .int v2, .int v3, .int v4, .int v5] [.int q2.1] q2.2 Q
  refine e_if_ne dX13_cheapest_15 52 (by decide) (fun hc => ?_) (fun hc => ?_)
  · rw [if_pos hc] at h
    exact E_X13_cheapest_c52 hs h hQ
  · rw [if_neg hc] at h
    refine e_aload_n dX13_cheapest_18 rfl ?_
    refine e_iload_n dX13_cheapest_19 rfl ?_
    refine e_iload_n dX13_cheapest_20 rfl ?_
    refine e_iload dX13_cheapest_21 rfl ?_
    obtain ⟨q3, hq3, h⟩ := p_bd h
    refine e_cS dX13_cheapest_23 rfl rfl rfl rfl (E_X13_noWish hs hq3 ⟨rfl, ?_⟩)
    have hs := ShM_of (P_X13_noWish (r := q3) hq3) hs
    show p_Ev X (d + 12) M_X13_cheapest 26 [.ref tM, .int v1, .int v2, .int v3, .int v4, .int v5] [.int q3.1, .ref tM] q3.2 Q
    refine e_if_ne dX13_cheapest_26 40 (by decide) (fun hc => ?_) (fun hc => ?_)
    · rw [if_pos hc] at h
      exact E_X13_cheapest_c40 hs h hQ
    · rw [if_neg hc] at h
      refine e_iload dX13_cheapest_29 rfl ?_
      refine e_iconst (v := (0 : Int32)) dX13_cheapest_31 rfl ?_
      refine e_bipush (v := (6 : Int32)) dX13_cheapest_32 rfl ?_
      obtain ⟨q4, hq4, h⟩ := p_bd h
      refine e_cS dX13_cheapest_34 rfl rfl rfl rfl (E_X13_in hs hq4 ⟨rfl, ?_⟩)
      have hs := ShM_of (P_X13_in (r := q4) hq4) hs
      show p_Ev X (d + 12) M_X13_cheapest 37 [.ref tM, .int v1, .int v2, .int v3, .int v4, .int v5] [.int q4.1, .ref tM] q4.2 Q
      refine e_if_ne dX13_cheapest_37 44 (by decide) (fun hc => ?_) (fun hc => ?_)
      · rw [if_pos hc] at h
        refine e_iconst (v := (0 : Int32)) dX13_cheapest_44 rfl ?_
        exact E_X13_cheapest_c45 hs h hQ
      · rw [if_neg hc] at h
        exact E_X13_cheapest_c40 hs h hQ
/-! X13_bath -/
def F_X13_bath_c52 (μ : p_M) : Option (Int32 × p_M) :=
  some ((0 : Int32), μ)
theorem P_X13_bath_c52 {μ : p_M} {r : Int32 × p_M} (h : F_X13_bath_c52 μ = some r) : Sm μ r.2 := by
  unfold F_X13_bath_c52 at h
  cases h
  exact (Sm_refl μ)
theorem E_X13_bath_c52 {X : p_X} {d : Nat} {Q : p_R → Prop} {w0 : Value} {w1 : Value} {w2 : Value} {w3 : Value} {w4 : Value} {w5 : Value} {w6 : Value} {μ : p_M} {r : Int32 × p_M} (hs : ShM μ) (h : F_X13_bath_c52 μ = some r) (hQ : Q ((0, some (.int r.1)), r.2)) : p_Ev X (d + 12) M_X13_bath 52 [w0, w1, w2, w3, w4, w5, w6] [] μ Q := by
  unfold F_X13_bath_c52 at h
  refine e_iconst (v := (0 : Int32)) dX13_bath_52 rfl ?_
  cases h
  exact e_ireti dX13_bath_53 rfl hQ
def F_X13_bath_c94 (s0 : Int32) (μ : p_M) : Option (Int32 × p_M) :=
  some (s0, μ)
theorem P_X13_bath_c94 {s0 : Int32} {μ : p_M} {r : Int32 × p_M} (h : F_X13_bath_c94 s0 μ = some r) : Sm μ r.2 := by
  unfold F_X13_bath_c94 at h
  cases h
  exact (Sm_refl μ)
theorem E_X13_bath_c94 {X : p_X} {d : Nat} {Q : p_R → Prop} {s0 : Int32} {w0 : Value} {w1 : Value} {w2 : Value} {w3 : Value} {w4 : Value} {w5 : Value} {w6 : Value} {μ : p_M} {r : Int32 × p_M} (hs : ShM μ) (h : F_X13_bath_c94 s0 μ = some r) (hQ : Q ((0, some (.int r.1)), r.2)) : p_Ev X (d + 12) M_X13_bath 94 [w0, w1, w2, w3, w4, w5, w6] [.int s0] μ Q := by
  unfold F_X13_bath_c94 at h
  cases h
  exact e_ireti dX13_bath_94 rfl hQ
def F_X13_bath_c93 (μ : p_M) : Option (Int32 × p_M) :=
  F_X13_bath_c94 (-1) μ
theorem P_X13_bath_c93 {μ : p_M} {r : Int32 × p_M} (h : F_X13_bath_c93 μ = some r) : Sm μ r.2 := by
  unfold F_X13_bath_c93 at h
  exact Sm_trans (Sm_refl μ) (P_X13_bath_c94 h)
theorem E_X13_bath_c93 {X : p_X} {d : Nat} {Q : p_R → Prop} {w0 : Value} {w1 : Value} {w2 : Value} {w3 : Value} {w4 : Value} {w5 : Value} {w6 : Value} {μ : p_M} {r : Int32 × p_M} (hs : ShM μ) (h : F_X13_bath_c93 μ = some r) (hQ : Q ((0, some (.int r.1)), r.2)) : p_Ev X (d + 12) M_X13_bath 93 [w0, w1, w2, w3, w4, w5, w6] [] μ Q := by
  unfold F_X13_bath_c93 at h
  refine e_iconst (v := (-1)) dX13_bath_93 rfl ?_
  exact E_X13_bath_c94 hs h hQ
def F_X13_bath_c45 (v1 : Int32) (v2 : Int32) (v3 : Int32) (v4 : Int32) (v5 : Int32) (v6 : Int32) (s0 : Int32) (μ : p_M) : Option (Int32 × p_M) :=
  (F_X13_throwsIf s0 (2 : Int32) μ).bind fun q5 =>
  if q5.1 = 0
  then ((F_X13_cheapestOf v1 v2 v3 v4 v5 q5.2).bind fun q6 =>
    if q6.1 = 0
    then (F_X13_bath_c93 q6.2)
    else ((F_X13_in v6 (0 : Int32) ((mI q6.2 tM 19) - (1 : Int32)) q6.2).bind fun q7 =>
      if q7.1 = 0
      then (F_X13_bath_c93 q7.2)
      else (p_ok (¬ v6 < 0 ∧ v6.toNatClampNeg < 6)
        (F_X13_bath_c94 (mI q7.2 (aM 17) v6.toNatClampNeg) q7.2))))
  else (F_X13_bath_c52 q5.2)
theorem P_X13_bath_c45 {v1 : Int32} {v2 : Int32} {v3 : Int32} {v4 : Int32} {v5 : Int32} {v6 : Int32} {s0 : Int32} {μ : p_M} {r : Int32 × p_M} (h : F_X13_bath_c45 v1 v2 v3 v4 v5 v6 s0 μ = some r) : Sm μ r.2 := by
  unfold F_X13_bath_c45 at h
  obtain ⟨q5, hq5, h⟩ := p_bd h
  by_cases hc : q5.1 = 0
  · rw [if_pos hc] at h
    obtain ⟨q6, hq6, h⟩ := p_bd h
    by_cases hc : q6.1 = 0
    · rw [if_pos hc] at h
      exact Sm_trans (Sm_trans (Sm_trans (Sm_refl μ) (P_X13_throwsIf (r := q5) hq5)) (P_X13_cheapestOf (r := q6) hq6)) (P_X13_bath_c93 h)
    · rw [if_neg hc] at h
      obtain ⟨q7, hq7, h⟩ := p_bd h
      by_cases hc : q7.1 = 0
      · rw [if_pos hc] at h
        exact Sm_trans (Sm_trans (Sm_trans (Sm_trans (Sm_refl μ) (P_X13_throwsIf (r := q5) hq5)) (P_X13_cheapestOf (r := q6) hq6)) (P_X13_in (r := q7) hq7)) (P_X13_bath_c93 h)
      · rw [if_neg hc] at h
        obtain ⟨hc, h⟩ := p_ok_some h
        exact Sm_trans (Sm_trans (Sm_trans (Sm_trans (Sm_refl μ) (P_X13_throwsIf (r := q5) hq5)) (P_X13_cheapestOf (r := q6) hq6)) (P_X13_in (r := q7) hq7)) (P_X13_bath_c94 h)
  · rw [if_neg hc] at h
    exact Sm_trans (Sm_trans (Sm_refl μ) (P_X13_throwsIf (r := q5) hq5)) (P_X13_bath_c52 h)
theorem E_X13_bath_c45 {X : p_X} {d : Nat} {Q : p_R → Prop} {v1 : Int32} {v2 : Int32} {v3 : Int32} {v4 : Int32} {v5 : Int32} {v6 : Int32} {s0 : Int32} {μ : p_M} {r : Int32 × p_M} (hs : ShM μ) (h : F_X13_bath_c45 v1 v2 v3 v4 v5 v6 s0 μ = some r) (hQ : Q ((0, some (.int r.1)), r.2)) : p_Ev X (d + 12) M_X13_bath 45 [.ref tM, .int v1, .int v2, .int v3, .int v4, .int v5, .int v6] [.int s0, .ref tM] μ Q := by
  unfold F_X13_bath_c45 at h
  refine e_iconst (v := (2 : Int32)) dX13_bath_45 rfl ?_
  obtain ⟨q5, hq5, h⟩ := p_bd h
  refine e_cV dX13_bath_46 rfl rfl ⟨rfl, rfl, by decide⟩ rfl hs.1 hs.2.1 (E_X13_throwsIf hs hq5 ⟨rfl, ?_⟩)
  have hs := ShM_of (P_X13_throwsIf (r := q5) hq5) hs
  show p_Ev X (d + 12) M_X13_bath 49 [.ref tM, .int v1, .int v2, .int v3, .int v4, .int v5, .int v6] [.int q5.1] q5.2 Q
  refine e_if_eq dX13_bath_49 54 (by decide) (fun hc => ?_) (fun hc => ?_)
  · rw [if_pos hc] at h
    refine e_aload_n dX13_bath_54 rfl ?_
    refine e_iload_n dX13_bath_55 rfl ?_
    refine e_iload_n dX13_bath_56 rfl ?_
    refine e_iload_n dX13_bath_57 rfl ?_
    refine e_iload dX13_bath_58 rfl ?_
    refine e_iload dX13_bath_60 rfl ?_
    obtain ⟨q6, hq6, h⟩ := p_bd h
    refine e_cV dX13_bath_62 rfl rfl ⟨rfl, rfl, by decide⟩ rfl hs.1 hs.2.1 (E_X13_cheapestOf hs hq6 ⟨rfl, ?_⟩)
    have hs := ShM_of (P_X13_cheapestOf (r := q6) hq6) hs
    show p_Ev X (d + 12) M_X13_bath 65 [.ref tM, .int v1, .int v2, .int v3, .int v4, .int v5, .int v6] [.int q6.1] q6.2 Q
    refine e_if_eq dX13_bath_65 93 (by decide) (fun hc => ?_) (fun hc => ?_)
    · rw [if_pos hc] at h
      exact E_X13_bath_c93 hs h hQ
    · rw [if_neg hc] at h
      refine e_iload dX13_bath_68 rfl ?_
      refine e_iconst (v := (0 : Int32)) dX13_bath_70 rfl ?_
      refine e_aload_n dX13_bath_71 rfl ?_
      refine e_getI dX13_bath_72 rfl rfl hs.1 hs.2.1 ?_
      refine e_iconst (v := (1 : Int32)) dX13_bath_75 rfl ?_
      refine e_isub dX13_bath_76 ?_
      obtain ⟨q7, hq7, h⟩ := p_bd h
      refine e_cS dX13_bath_77 rfl rfl rfl rfl (E_X13_in hs hq7 ⟨rfl, ?_⟩)
      have hs := ShM_of (P_X13_in (r := q7) hq7) hs
      show p_Ev X (d + 12) M_X13_bath 80 [.ref tM, .int v1, .int v2, .int v3, .int v4, .int v5, .int v6] [.int q7.1] q7.2 Q
      refine e_if_eq dX13_bath_80 93 (by decide) (fun hc => ?_) (fun hc => ?_)
      · rw [if_pos hc] at h
        exact E_X13_bath_c93 hs h hQ
      · rw [if_neg hc] at h
        refine e_aload_n dX13_bath_83 rfl ?_
        refine e_getR dX13_bath_84 rfl rfl hs.1 hs.2.1 (hs.2.2.2 17 (by decide) rfl).1 ?_
        refine e_iload dX13_bath_87 rfl ?_
        obtain ⟨hc, h⟩ := p_ok_some h
        refine e_iald dX13_bath_89 (Nat.lt_trans (hs.2.2.2 17 (by decide) rfl).2.2.2 hs.2.2.1) (hs.2.2.2 17 (by decide) rfl).2.1 (hs.2.2.2 17 (by decide) rfl).2.2.1 (hs.2.2.2 17 (by decide) rfl).2.2.2 hc ?_
        refine e_goto dX13_bath_90 94 (by decide) ?_
        exact E_X13_bath_c94 hs h hQ
  · rw [if_neg hc] at h
    exact E_X13_bath_c52 hs h hQ
def F_X13_bath_c40 (v1 : Int32) (v2 : Int32) (v3 : Int32) (v4 : Int32) (v5 : Int32) (v6 : Int32) (μ : p_M) : Option (Int32 × p_M) :=
  F_X13_bath_c45 v1 v2 v3 v4 v5 v6 (1 : Int32) μ
theorem P_X13_bath_c40 {v1 : Int32} {v2 : Int32} {v3 : Int32} {v4 : Int32} {v5 : Int32} {v6 : Int32} {μ : p_M} {r : Int32 × p_M} (h : F_X13_bath_c40 v1 v2 v3 v4 v5 v6 μ = some r) : Sm μ r.2 := by
  unfold F_X13_bath_c40 at h
  exact Sm_trans (Sm_refl μ) (P_X13_bath_c45 h)
theorem E_X13_bath_c40 {X : p_X} {d : Nat} {Q : p_R → Prop} {v1 : Int32} {v2 : Int32} {v3 : Int32} {v4 : Int32} {v5 : Int32} {v6 : Int32} {μ : p_M} {r : Int32 × p_M} (hs : ShM μ) (h : F_X13_bath_c40 v1 v2 v3 v4 v5 v6 μ = some r) (hQ : Q ((0, some (.int r.1)), r.2)) : p_Ev X (d + 12) M_X13_bath 40 [.ref tM, .int v1, .int v2, .int v3, .int v4, .int v5, .int v6] [.ref tM] μ Q := by
  unfold F_X13_bath_c40 at h
  refine e_iconst (v := (1 : Int32)) dX13_bath_40 rfl ?_
  refine e_goto dX13_bath_41 45 (by decide) ?_
  exact E_X13_bath_c45 hs h hQ
def F_X13_bath (v1 : Int32) (v2 : Int32) (v3 : Int32) (v4 : Int32) (v5 : Int32) (v6 : Int32) (μ : p_M) : Option (Int32 × p_M) :=
  (F_X13_noCloth v1 (sI μ tM 0 (0 : Int32))).bind fun q1 =>
  (F_X13_throwsIf q1.1 (1 : Int32) q1.2).bind fun q2 =>
  if ¬ q2.1 = 0
  then (F_X13_bath_c52 q2.2)
  else ((F_X13_noWish v2 v3 v4 q2.2).bind fun q3 =>
    if ¬ q3.1 = 0
    then (F_X13_bath_c40 v1 v2 v3 v4 v5 v6 q3.2)
    else ((F_X13_in v5 (0 : Int32) (6 : Int32) q3.2).bind fun q4 =>
      if ¬ q4.1 = 0
      then (F_X13_bath_c45 v1 v2 v3 v4 v5 v6 (0 : Int32) q4.2)
      else (F_X13_bath_c40 v1 v2 v3 v4 v5 v6 q4.2)))
theorem P_X13_bath {v1 : Int32} {v2 : Int32} {v3 : Int32} {v4 : Int32} {v5 : Int32} {v6 : Int32} {μ : p_M} {r : Int32 × p_M} (h : F_X13_bath v1 v2 v3 v4 v5 v6 μ = some r) : Sm μ r.2 := by
  unfold F_X13_bath at h
  obtain ⟨q1, hq1, h⟩ := p_bd h
  obtain ⟨q2, hq2, h⟩ := p_bd h
  by_cases hc : ¬ q2.1 = 0
  · rw [if_pos hc] at h
    exact Sm_trans (Sm_trans (Sm_trans (Sm_set (Sm_refl μ) (by decide)) (P_X13_noCloth (r := q1) hq1)) (P_X13_throwsIf (r := q2) hq2)) (P_X13_bath_c52 h)
  · rw [if_neg hc] at h
    obtain ⟨q3, hq3, h⟩ := p_bd h
    by_cases hc : ¬ q3.1 = 0
    · rw [if_pos hc] at h
      exact Sm_trans (Sm_trans (Sm_trans (Sm_trans (Sm_set (Sm_refl μ) (by decide)) (P_X13_noCloth (r := q1) hq1)) (P_X13_throwsIf (r := q2) hq2)) (P_X13_noWish (r := q3) hq3)) (P_X13_bath_c40 h)
    · rw [if_neg hc] at h
      obtain ⟨q4, hq4, h⟩ := p_bd h
      by_cases hc : ¬ q4.1 = 0
      · rw [if_pos hc] at h
        exact Sm_trans (Sm_trans (Sm_trans (Sm_trans (Sm_trans (Sm_set (Sm_refl μ) (by decide)) (P_X13_noCloth (r := q1) hq1)) (P_X13_throwsIf (r := q2) hq2)) (P_X13_noWish (r := q3) hq3)) (P_X13_in (r := q4) hq4)) (P_X13_bath_c45 h)
      · rw [if_neg hc] at h
        exact Sm_trans (Sm_trans (Sm_trans (Sm_trans (Sm_trans (Sm_set (Sm_refl μ) (by decide)) (P_X13_noCloth (r := q1) hq1)) (P_X13_throwsIf (r := q2) hq2)) (P_X13_noWish (r := q3) hq3)) (P_X13_in (r := q4) hq4)) (P_X13_bath_c40 h)
theorem E_X13_bath {X : p_X} {d : Nat} {Q : p_R → Prop} {v1 : Int32} {v2 : Int32} {v3 : Int32} {v4 : Int32} {v5 : Int32} {v6 : Int32} {μ : p_M} {r : Int32 × p_M} (hs : ShM μ) (h : F_X13_bath v1 v2 v3 v4 v5 v6 μ = some r) (hQ : Q ((0, some (.int r.1)), r.2)) : p_Ev X (d + 12) M_X13_bath 0 [.ref tM, .int v1, .int v2, .int v3, .int v4, .int v5, .int v6] [] μ Q := by
  unfold F_X13_bath at h
  refine e_aload_n dX13_bath_0 rfl ?_
  refine e_iconst (v := (0 : Int32)) dX13_bath_1 rfl ?_
  refine e_putI dX13_bath_2 rfl ⟨rfl, rfl, fun h => by cases h⟩ (fun h => by cases h) hs.1 hs.2.1 ?_
  refine e_aload_n dX13_bath_5 rfl ?_
  refine e_aload_n dX13_bath_6 rfl ?_
  refine e_iload_n dX13_bath_7 rfl ?_
  obtain ⟨q1, hq1, h⟩ := p_bd h
  refine e_cV dX13_bath_8 rfl rfl ⟨rfl, rfl, by decide⟩ rfl hs.1 hs.2.1 (E_X13_noCloth hs hq1 ⟨rfl, ?_⟩)
  have hs := ShM_of (P_X13_noCloth (r := q1) hq1) hs
  show p_Ev X (d + 12) M_X13_bath 11 [.ref tM, .int v1, .int v2, .int v3, .int v4, .int v5, .int v6] [.int q1.1, .ref tM] q1.2 Q
  refine e_iconst (v := (1 : Int32)) dX13_bath_11 rfl ?_
  obtain ⟨q2, hq2, h⟩ := p_bd h
  refine e_cV dX13_bath_12 rfl rfl ⟨rfl, rfl, by decide⟩ rfl hs.1 hs.2.1 (E_X13_throwsIf hs hq2 ⟨rfl, ?_⟩)
  have hs := ShM_of (P_X13_throwsIf (r := q2) hq2) hs
  show p_Ev X (d + 12) M_X13_bath 15 [.ref tM, .int v1, .int v2, .int v3, .int v4, .int v5, .int v6] [.int q2.1] q2.2 Q
  refine e_if_ne dX13_bath_15 52 (by decide) (fun hc => ?_) (fun hc => ?_)
  · rw [if_pos hc] at h
    exact E_X13_bath_c52 hs h hQ
  · rw [if_neg hc] at h
    refine e_aload_n dX13_bath_18 rfl ?_
    refine e_iload_n dX13_bath_19 rfl ?_
    refine e_iload_n dX13_bath_20 rfl ?_
    refine e_iload dX13_bath_21 rfl ?_
    obtain ⟨q3, hq3, h⟩ := p_bd h
    refine e_cS dX13_bath_23 rfl rfl rfl rfl (E_X13_noWish hs hq3 ⟨rfl, ?_⟩)
    have hs := ShM_of (P_X13_noWish (r := q3) hq3) hs
    show p_Ev X (d + 12) M_X13_bath 26 [.ref tM, .int v1, .int v2, .int v3, .int v4, .int v5, .int v6] [.int q3.1, .ref tM] q3.2 Q
    refine e_if_ne dX13_bath_26 40 (by decide) (fun hc => ?_) (fun hc => ?_)
    · rw [if_pos hc] at h
      exact E_X13_bath_c40 hs h hQ
    · rw [if_neg hc] at h
      refine e_iload dX13_bath_29 rfl ?_
      refine e_iconst (v := (0 : Int32)) dX13_bath_31 rfl ?_
      refine e_bipush (v := (6 : Int32)) dX13_bath_32 rfl ?_
      obtain ⟨q4, hq4, h⟩ := p_bd h
      refine e_cS dX13_bath_34 rfl rfl rfl rfl (E_X13_in hs hq4 ⟨rfl, ?_⟩)
      have hs := ShM_of (P_X13_in (r := q4) hq4) hs
      show p_Ev X (d + 12) M_X13_bath 37 [.ref tM, .int v1, .int v2, .int v3, .int v4, .int v5, .int v6] [.int q4.1, .ref tM] q4.2 Q
      refine e_if_ne dX13_bath_37 44 (by decide) (fun hc => ?_) (fun hc => ?_)
      · rw [if_pos hc] at h
        refine e_iconst (v := (0 : Int32)) dX13_bath_44 rfl ?_
        exact E_X13_bath_c45 hs h hQ
      · rw [if_neg hc] at h
        exact E_X13_bath_c40 hs h hQ
