/-! days -/
def stC (c : p_M) (i L : Nat) : Option (Nat × Int32 × p_M) := if ¬ mI c (57 + 2 * i) 3 = -1 then F_X12_doNextBath 0 (57 + 2 * i) (nI L) c else F_X12_takeNext 0 (57 + 2 * i) (nI L) c
theorem b_step {c m : p_M} {K i L : Nat} (h : DIv c m) (hK0 : mI c 0 13 = nI K) (hK4 : K ≤ 4) (hi : i < K) (hL : L ≤ 480) : (stC c i L = some (0, -1, c) ∧ F_X13_step (nI i) (nI L) m = some (-1, m)) ∨ ∃ s c' m', s ≤ L ∧ stC c i L = some (0, nI (L - s), c') ∧ F_X13_step (nI i) (nI L) m = some (nI s, m') ∧ DIv c' (sI m' 88 i (mI m' 88 i + nI s)) ∧ Fc c c' ∧ Fq dM dN m m' ∧ ∀ N, N ≤ 40 → mI m 65 62 = nI N → cnt (wt m' i) N + (L - s) < cnt (wt m i) N + L := by
  unfold stC
  by_cases hin : mI c (57 + 2 * i) 3 = -1
  · rw [if_neg (fun q => q hin)]
    exact b_take h hK0 hK4 hi hL hin
  · rw [if_pos hin]
    exact b_bath h hK0 hK4 hi hL hin
theorem c_work {c : p_M} {i L v n : Nat} (hS : Sh c) (i4 : i < 4) (hL : L ≤ 480) (hv : v < 1000) : F_X12_workDay_c6 (n + 1) 0 (57 + 2 * i) (nI L) (nI v) c = (stC c i L).bind fun q => if q.1 = 0 then F_X12_workDay_c6 n 0 (57 + 2 * i) q.2.1 (nI (v + 1)) q.2.2 else some (q.1, 0, q.2.2) := by
  have c1 : ¬ (1000 : Int32) ≤ nI v := nI_ge (b := 1000) hv (by decide)
  have c2 : ¬ nI L = -1 := nI_nm1 (by omega)
  have av : nI v + 1 = nI (v + 1) := nI_add v 1
  unfold stC
  by_cases hin : mI c (57 + 2 * i) 3 = -1
  · simp only [F_X12_workDay_c6, F_X12_workDay_c41, p_ok, c1, c2, s_o57v hS i4, s_o0 hS, s_r0_0 hS, s_r0_1 hS, s_r0_10 hS, s_r0_11 hS, s_r0_12 hS, s_r0_14 hS, s_r0_16 hS, s_r0_19 hS, s_r0_7 hS, s_r0_8 hS, s_r0_9 hS, hin, av, not_true_eq_false, and_self, ↓reduceIte]
  · simp only [F_X12_workDay_c6, F_X12_workDay_c41, p_ok, c1, c2, s_o57v hS i4, s_o0 hS, s_r0_0 hS, s_r0_1 hS, s_r0_10 hS, s_r0_11 hS, s_r0_12 hS, s_r0_14 hS, s_r0_16 hS, s_r0_19 hS, s_r0_7 hS, s_r0_8 hS, s_r0_9 hS, hin, av, not_false_eq_true, and_self, ↓reduceIte]
theorem b_work {K i N : Nat} (hK4 : K ≤ 4) (hi : i < K) (hN : N ≤ 40) (K32 : Int32 → Int32 → p_M → Option (Int32 × p_M)) (K59 : Int32 → Int32 → Int32 → p_M → Option (Int32 × p_M)) (v1 v2 : Int32) : ∀ (f : Nat) (c m : p_M) (L v nc nm : Nat), DIv c m → mI c 0 13 = nI K → L ≤ 480 → mI m 65 62 = nI N → cnt (wt m i) N + L < f → v + f < 900 → f + 2 < nc → f + 2 < nm → ∃ c' m', F_X12_workDay_c6 nc 0 (57 + 2 * i) (nI L) (nI v) c = some (0, 0, c') ∧ (F_X13_step (nI i) (nI L) m).bind (fun q3 => F_X13_days_c81 K32 K59 nm v1 v2 (nI i) (nI L) q3.1 q3.2) = K59 v1 v2 (nI i + 1) m' ∧ DIv c' m' ∧ Fc c c' ∧ Fq dM dN m m' := by
  have i4 : i < 4 := by omega
  have ii := ix_nI i4 (by decide)
  have ki := nI_clamp (show i < 2 ^ 31 by omega)
  intro f
  induction f with
  | zero => intro c m L v nc nm _ _ _ _ h; omega
  | succ f ih =>
    intro c m L v nc nm hD hK0 hL e62 hf hv hnc hnm
    obtain ⟨nc, rfl⟩ : ∃ k, nc = k + 1 + 1 := ⟨nc - 2, by omega⟩
    obtain ⟨nm, rfl⟩ : ∃ k, nm = k + 1 := ⟨nm - 1, by omega⟩
    have hS := hD.1
    rcases b_step hD hK0 hK4 hi hL with ⟨s1, s2⟩ | ⟨s, c1, m1, s0, s1, s2, s3, s4, s5, s6⟩
    · refine ⟨c, m, ?_, ?_, hD, Fc_refl c, Fq_refl m⟩
      · have c1 : ¬ (1000 : Int32) ≤ nI (v + 1) := nI_ge (b := 1000) (by omega) (by decide)
        rw [c_work hS i4 hL (by omega), s1]
        simp only [bd_some, ↓reduceIte, F_X12_workDay_c6, F_X12_workDay_c48, c1]
      · have q : (-1 : Int32) < 0 := by decide
        rw [s2]
        simp only [bd_some, F_X13_days_c81, q, ↓reduceIte]
    · have hK1 : mI c1 0 13 = nI K := by rw [s4.2 0 (by decide) (by decide)]; exact hK0
      have e62' : mI (sI m1 88 i (mI m1 88 i + nI s)) 65 62 = nI N := by
        rw [mI_sI, if_neg (by decide), Fq_sc s5 62 (by decide)]; exact e62
      have hc := s6 N hN e62
      have hw : wt (sI m1 88 i (mI m1 88 i + nI s)) i = wt m1 i := rfl
      obtain ⟨c', m', t1, t2, t3, t4, t5⟩ := ih c1 (sI m1 88 i (mI m1 88 i + nI s)) (L - s) (v + 1) (nc + 1) nm s3 hK1 (by omega) e62' (by rw [hw]; omega) (by omega) (by omega) (by omega)
      refine ⟨c', m', ?_, ?_, t3, Fc_trans s4 t4, Fq_trans (Fq_sI s5 (by decide)) t5⟩
      · rw [c_work hS i4 hL (by omega), s1]
        exact t1
      · have q : ¬ nI s < 0 := nI_pos (by omega)
        have sb : nI L - nI s = nI (L - s) := pk_sub s0
        rw [s2]
        simp only [bd_some, F_X13_days_c81, p_ok, aM, q, ii, ki, i4, sb, and_self, true_and, not_false_eq_true, ↓reduceIte]
        exact t2
theorem b_macs {K N : Nat} (hK4 : K ≤ 4) (hN : N ≤ 40) (K12 : Nat → Int32 → Int32 → p_M → Option (Nat × Int32 × p_M)) (K32 : Int32 → Int32 → p_M → Option (Int32 × p_M)) (v1 v2 : Int32) : ∀ (r i : Nat) (c m : p_M) (nc nm : Nat), i + r = K → DIv c m → mI c 0 13 = nI K → mI m 65 62 = nI N → mI m 65 47 = nI K → r < nc → r < nm → ∃ c' m', F_X12_days_c39 K12 nc 0 v1 v2 (nI i) c = K12 0 v1 (v2 + 1) c' ∧ F_X13_days_c59 K32 nm v1 v2 (nI i) m = K32 v1 (v2 + 1) m' ∧ DIv c' m' ∧ Fc c c' ∧ Fq dM dN m m' := by
  intro r
  induction r with
  | zero =>
    intro i c m nc nm hi hD hK0 e62 e47 hnc hnm
    obtain ⟨nc, rfl⟩ : ∃ k, nc = k + 1 := ⟨nc - 1, by omega⟩
    obtain ⟨nm, rfl⟩ : ∃ k, nm = k + 1 := ⟨nm - 1, by omega⟩
    have hS := hD.1
    have c1 : nI K ≤ nI i := nI_le (by omega) (by omega)
    refine ⟨c, m, ?_, ?_, hD, Fc_refl c, Fq_refl m⟩
    · simp only [F_X12_days_c39, p_ok, s_o0 hS, s_r0_0 hS, s_r0_1 hS, s_r0_10 hS, s_r0_11 hS, s_r0_12 hS, s_r0_14 hS, s_r0_16 hS, s_r0_19 hS, s_r0_7 hS, s_r0_8 hS, s_r0_9 hS, hK0, c1, and_self, ↓reduceIte]
    · simp only [F_X13_days_c59, tM, e47, c1, ↓reduceIte]
  | succ r ih =>
    intro i c m nc nm hi hD hK0 e62 e47 hnc hnm
    obtain ⟨nc, rfl⟩ : ∃ k, nc = k + 1 := ⟨nc - 1, by omega⟩
    obtain ⟨nm, rfl⟩ : ∃ k, nm = k + 1 := ⟨nm - 1, by omega⟩
    have hS := hD.1
    have i4 : i < 4 := by omega
    have ii := ix_nI i4 (by decide)
    have ki := nI_clamp (show i < 2 ^ 31 by omega)
    have c1 : ¬ nI K ≤ nI i := nI_ge (by omega) (by omega)
    have c23 : 23 ≤ 24 ∧ 24 ≤ 26 := by decide
    have r36 := s_r36 hS i4
    have ai : nI i + 1 = nI (i + 1) := nI_add i 1
    have hcnt := cnt_le (wt m i) N
    obtain ⟨c1', m1, t1, t2, t3, t4, t5⟩ := b_work hK4 (show i < K by omega) hN K32 (F_X13_days_c59 K32 nm) v1 v2 530 c m 480 0 p_fu p_fu hD hK0 (by omega) e62 (by omega) (by omega) (by decide) (by decide)
    obtain ⟨c2, m2, q1, q2, q3, q4, q5⟩ := ih (i + 1) c1' m1 nc nm (by omega) t3 (by rw [t4.2 0 (by decide) (by decide)]; exact hK0) (by rw [Fq_sc t5 62 (by decide)]; exact e62) (by rw [Fq_sc t5 47 (by decide)]; exact e47) (by omega) (by omega)
    refine ⟨c2, m2, ?_, ?_, q3, Fc_trans t4 q4, Fq_trans t5 q5⟩
    · have t1 : F_X12_workDay 0 (57 + 2 * i) c = some (0, 0, c1') := t1
      simp only [F_X12_days_c39, bd_some, p_ok, s_o0 hS, s_r0_0 hS, s_r0_1 hS, s_r0_10 hS, s_r0_11 hS, s_r0_12 hS, s_r0_14 hS, s_r0_16 hS, s_r0_19 hS, s_r0_7 hS, s_r0_8 hS, s_r0_9 hS, s_a36 hS, s_l36 hS, s_o36 hS, s_r36_0 hS, s_r36_1 hS, s_r36_2 hS, s_r36_3 hS, hK0, c1, c23, ii, ki, i4, r36, t1, ai, and_self, true_and, not_false_eq_true, ↓reduceIte]
      exact q1
    · rw [← q2, ← ai, ← t2]
      simp only [F_X13_days_c59, tM, e47, c1, ↓reduceIte]
      rfl
/-- a new day -/
theorem DIv_day {c m : p_M} {d : Nat} (hd : d < 400) (h : DIv c m) : DIv (sI c 0 15 (nI (d + 1))) (sI m 65 42 (nI (d + 1))) := by
  obtain ⟨hS, hRL, hRW, hRK, hRH, hRM⟩ := h
  have f : Fr [0] [42] (mg c m) (mg (sI c 0 15 (nI (d + 1))) (sI m 65 42 (nI (d + 1)))) := mg_fr (cs := [0]) (cs' := []) (ss := [42]) (Fq_sI (Fq_refl c) (by decide)) (Fq_s65 (Fq_refl m) (by decide))
  refine ⟨Sh_q (Fq_sI (cs := [0]) (ss := []) (Fq_refl c) (by decide)) hS, RLots_fr f (by decide) (by decide) (by decide) rfl (fun j _ => rfl) (fun j _ => ⟨rfl, rfl⟩) (fun j _ => rfl) (fun j => rfl) hRL, RWater_fr f (by decide) hRW, RKinds_fr f (by decide) hRK, RHouse_fr f (by decide) hRH, ⟨⟨d + 1, by omega, rfl, rfl⟩, hRM.2.1, hRM.2.2⟩⟩
def Fdd (c c' : p_M) : Prop := c'.2 = c.2 ∧ (∀ a, a < 113 → a ∉ [0, 30, 32, 33, 57, 58, 59, 60, 61, 62, 63, 64] → mI c' a = mI c a) ∧ ∀ k, k ≠ 15 → mI c' 0 k = mI c 0 k
abbrev dN2 : List Nat := [31, 32, 34, 35, 36, 37, 42]
theorem Fdd_refl (c : p_M) : Fdd c c := ⟨rfl, fun _ _ _ => rfl, fun _ _ => rfl⟩
theorem Fdd_trans {c c1 c2 : p_M} (h : Fdd c c1) (g : Fdd c1 c2) : Fdd c c2 := ⟨g.1.trans h.1, fun a h1 h2 => (g.2.1 a h1 h2).trans (h.2.1 a h1 h2), fun k hk => (g.2.2 k hk).trans (h.2.2 k hk)⟩
theorem Fdd_of {c c1 : p_M} (h : Fc c c1) : Fdd c c1 := ⟨h.1, fun a h1 h2 => h.2 a h1 (fun q => h2 (List.mem_cons_of_mem _ q)), fun k _ => by rw [h.2 0 (by decide) (by decide)]⟩
theorem Fdd_day (c : p_M) (v : Int32) : Fdd c (sI c 0 15 v) := ⟨rfl, fun a h1 h2 => by
  rw [mI_sI, if_neg (fun e => h2 (by rw [e]; decide))], fun k hk => by rw [mI_sI, if_pos rfl, z_up, if_neg hk]⟩
theorem b_days {K N D : Nat} (hK4 : K ≤ 4) (hN : N ≤ 40) (hD60 : D ≤ 60) : ∀ (r k : Nat) (c m : p_M) (nc nm : Nat), k + r = D → DIv c m → mI c 0 13 = nI K → mI m 65 62 = nI N → mI m 65 47 = nI K → r < nc → r < nm → ∃ t c' m', F_X12_days_c12 nc 0 (nI D) (nI k) c = some (0, t, c') ∧ F_X13_days_c32 nm (nI D) (nI k) m = some (t, m') ∧ DIv c' m' ∧ Fdd c c' ∧ Fq dM dN2 m m' := by
  have fin : ∀ (c m : p_M), DIv c m → ∃ t, F_X12_days_c69 0 c = some (0, t, c) ∧ F_X13_days_c128 m = some (t, m) := fun c m hD => by
    obtain ⟨hS, -, -, -, -, ⟨⟨d, d1, d2, d3⟩, -⟩⟩ := hD
    refine ⟨nI d, ?_, ?_⟩
    · have d2 : mI c 0 15 = nI d := d2
      simp only [F_X12_days_c69, p_ok, s_o0 hS, s_r0_0 hS, s_r0_1 hS, s_r0_10 hS, s_r0_11 hS, s_r0_12 hS, s_r0_14 hS, s_r0_16 hS, s_r0_19 hS, s_r0_7 hS, s_r0_8 hS, s_r0_9 hS, d2, and_self, ↓reduceIte]
    · have d3 : mI m 65 42 = nI d := d3
      simp only [F_X13_days_c128, tM, d3]
  intro r
  induction r with
  | zero =>
    intro k c m nc nm hk hD hK0 e62 e47 hnc hnm
    obtain ⟨nc, rfl⟩ : ∃ k, nc = k + 1 := ⟨nc - 1, by omega⟩
    obtain ⟨nm, rfl⟩ : ∃ k, nm = k + 1 := ⟨nm - 1, by omega⟩
    have c1 : nI D ≤ nI k := nI_le (by omega) (by omega)
    obtain ⟨t, t1, t2⟩ := fin c m hD
    refine ⟨t, c, m, ?_, ?_, hD, Fdd_refl c, Fq_refl m⟩
    · simp only [F_X12_days_c12, c1, ↓reduceIte]; exact t1
    · simp only [F_X13_days_c32, c1, ↓reduceIte]; exact t2
  | succ r ih =>
    intro k c m nc nm hk hD hK0 e62 e47 hnc hnm
    obtain ⟨nc, rfl⟩ : ∃ k, nc = k + 1 := ⟨nc - 1, by omega⟩
    obtain ⟨nm, rfl⟩ : ∃ k, nm = k + 1 := ⟨nm - 1, by omega⟩
    have c1 : ¬ nI D ≤ nI k := nI_ge (by omega) (by omega)
    have ak : nI k + 1 = nI (k + 1) := nI_add k 1
    have hS := hD.1
    obtain ⟨d, d1, d2, d3⟩ := hD.2.2.2.2.2.1
    have d2 : mI c 0 15 = nI d := d2
    have d3 : mI m 65 42 = nI d := d3
    by_cases c2 : 400 ≤ d
    · have c2' : (400 : Int32) ≤ nI d := nI_le (a := 400) c2 (by omega)
      obtain ⟨t, t1, t2⟩ := fin c m hD
      refine ⟨t, c, m, ?_, ?_, hD, Fdd_refl c, Fq_refl m⟩
      · simp only [F_X12_days_c12, p_ok, s_o0 hS, s_r0_0 hS, s_r0_1 hS, s_r0_10 hS, s_r0_11 hS, s_r0_12 hS, s_r0_14 hS, s_r0_16 hS, s_r0_19 hS, s_r0_7 hS, s_r0_8 hS, s_r0_9 hS, c1, d2, c2', and_self, ↓reduceIte]; exact t1
      · simp only [F_X13_days_c32, tM, c1, d3, c2', ↓reduceIte]; exact t2
    · have c2' : ¬ (400 : Int32) ≤ nI d := nI_ge (b := 400) (by omega) (by decide)
      have adn : nI d + 1 = nI (d + 1) := nI_add d 1
      have hD1 := DIv_day (d := d) (by omega) hD
      obtain ⟨c1', m1, t1, t2, t3, t4, t5⟩ := b_macs hK4 hN (F_X12_days_c12 nc) (F_X13_days_c32 nm) (nI D) (nI k) K 0 _ _ p_fu p_fu (by omega) hD1 (by rw [mI_sI, if_pos rfl, z_up, if_neg (by decide)]; exact hK0) (by rw [mI_sI, if_pos rfl, z_up, if_neg (by decide)]; exact e62) (by rw [mI_sI, if_pos rfl, z_up, if_neg (by decide)]; exact e47) (show K < 100000 by omega) (show K < 100000 by omega)
      obtain ⟨t, c3, m3, q1, q2, q3, q4, q5⟩ := ih (k + 1) c1' m1 nc nm (by omega) t3 (by rw [t4.2 0 (by decide) (by decide), mI_sI, if_pos rfl, z_up, if_neg (by decide)]; exact hK0) (by rw [Fq_sc t5 62 (by decide), mI_sI, if_pos rfl, z_up, if_neg (by decide)]; exact e62) (by rw [Fq_sc t5 47 (by decide), mI_sI, if_pos rfl, z_up, if_neg (by decide)]; exact e47) (by omega) (by omega)
      refine ⟨t, c3, m3, ?_, ?_, q3, Fdd_trans (Fdd_day c _) (Fdd_trans (Fdd_of t4) q4), Fq_trans (Fq_s65 (Fq_refl m) (by decide)) (Fq_trans (Fq_mono t5 (by decide) (by decide)) q5)⟩
      · rw [ak] at t1
        simp only [F_X12_days_c12, p_ok, p_let_eq, s_o0 hS, s_r0_0 hS, s_r0_1 hS, s_r0_10 hS, s_r0_11 hS, s_r0_12 hS, s_r0_14 hS, s_r0_16 hS, s_r0_19 hS, s_r0_7 hS, s_r0_8 hS, s_r0_9 hS, c1, d2, c2', adn, and_self, ↓reduceIte]
        exact t1.trans q1
      · rw [ak] at t2
        simp only [F_X13_days_c32, tM, c1, d3, c2', adn, ↓reduceIte]
        exact t2.trans q2
theorem mg_self (μ : p_M) : mg μ μ = μ := by
  refine Prod.ext (funext fun a => ?_) rfl
  show (if 65 ≤ a ∧ a ≤ 111 then μ.1 a else μ.1 a) = μ.1 a
  by_cases h : 65 ≤ a ∧ a ≤ 111
  · rw [if_pos h]
  · rw [if_neg h]
theorem A_days {μ : p_M} (hS : Sh μ) (hRL : RLots μ) (hRW : RWater μ) (hRK : RKinds μ) (hRH : RHouse μ) (hRM : RMisc μ) (v : Int32) : wp (F_L_days 0 v 112 μ) fun k μ1 => wp (F_X13_days v μ1) fun b μ2 => Post k b μ μ2 ∧ RLots μ2 ∧ RWater μ2 ∧ RMisc μ2 ∧ (∀ j, j ≠ 15 → mI μ2 0 j = mI μ 0 j) ∧ Fl [0, 30, 32, 33, 57, 58, 59, 60, 61, 62, 63, 64, 74, 81, 82, 86, 87, 88, 96, 97, 98, 99] [0, 31, 32, 34, 35, 36, 37, 42] μ μ2 := by
  by_cases c1 : 0 ≤ v ∧ v ≤ 60
  · obtain ⟨D, -, hD60, rfl⟩ := rg3 v 0 60 0 60 rfl rfl (by decide) (by decide) c1
    have hD : DIv μ μ := by unfold DIv; rw [mg_self]; exact ⟨hS, hRL, hRW, hRK, hRH, hRM⟩
    obtain ⟨N, K, -, -, -, -, ⟨-, e62, hN, -⟩, -, ⟨hK0, e47, hK4⟩, -⟩ := id hRL
    obtain ⟨t, c', m0', a1, -, -, a4, -⟩ := b_days hK4 hN hD60 D 0 μ μ p_fu p_fu (by omega) hD hK0 e62 e47 (show D < 100000 by omega) (show D < 100000 by omega)
    have hrow : ∀ a, a < 113 → a ∉ [0, 30, 32, 33, 57, 58, 59, 60, 61, 62, 63, 64] → mI c' a = mI μ a := a4.2.1
    have hrM : ∀ a, 65 ≤ a → a ≤ 111 → mI c' a = mI μ a := fun a h1 h2 => hrow a (by omega) (by simp only [List.mem_cons, List.not_mem_nil, or_false]; omega)
    obtain ⟨m0, hm0⟩ : ∃ m0, m0 = sI (sJ c' 112 (Int32.toNatClampNeg 0) t.toInt64) 65 0 0 := ⟨_, rfl⟩
    have hf0 : Fr [] [0] μ (mg μ m0) := by
      refine ⟨rfl, rfl, rfl, rfl, fun a h1 h2 => ?_, fun k hk => ?_⟩
      · by_cases q : 65 ≤ a ∧ a ≤ 111
        · rw [mg_m q, hm0, mI_sI, if_neg h1]
          exact hrM a q.1 q.2
        · rw [mg_c q]
      · rw [mg_m (show 65 ≤ 65 ∧ 65 ≤ 111 by decide), hm0, mI_sI, if_pos rfl, z_up, if_neg (fun e => hk (by rw [e]; decide))]
        show mI c' 65 k = mI μ 65 k
        rw [hrM 65 (by decide) (by decide)]
    have hD0 : DIv μ m0 := ⟨hS, RLots_fr0 hf0 (by decide) (by decide) (by decide) (by decide) hRL, RWater_fr hf0 (by decide) hRW, RKinds_fr hf0 (by decide) hRK, RHouse_fr hf0 (by decide) hRH, by
      obtain ⟨⟨d, d1, d2, d3⟩, d4, d5⟩ := hRM
      refine ⟨⟨d, d1, ?_, ?_⟩, ?_, ?_⟩
      · rw [Fr_row hf0 0 (by decide)]; exact d2
      · rw [Fr_sc hf0 42 (by decide)]; exact d3
      · rw [Fr_row hf0 0 (by decide), Fr_sc hf0 74 (by decide)]; exact d4
      · rw [Fr_row hf0 0 (by decide), Fr_sc hf0 75 (by decide)]; exact d5⟩
    have e62' : mI m0 65 62 = nI N := (Fr_sc hf0 62 (by decide)).trans e62
    have e47' : mI m0 65 47 = nI K := (Fr_sc hf0 47 (by decide)).trans e47
    obtain ⟨t', c'', m', b1, b2, b3, -, b5⟩ := b_days hK4 hN hD60 D 0 μ m0 p_fu p_fu (by omega) hD0 hK0 e62' e47' (show D < 100000 by omega) (show D < 100000 by omega)
    have b1 : F_X12_days_c12 p_fu 0 (nI D) 0 μ = some (0, t', c'') := b1
    have a1 : F_X12_days_c12 p_fu 0 (nI D) 0 μ = some (0, t, c') := a1
    have b2 : F_X13_days_c32 p_fu (nI D) 0 m0 = some (t', m') := b2
    have ee : t' = t ∧ c'' = c' := by
      have := Option.some.inj (b1.symm.trans a1)
      have := Prod.mk.inj (Prod.mk.inj this).2
      exact this
    obtain ⟨rfl, rfl⟩ := ee
    have hSc : Sh c'' := b3.1
    obtain ⟨-, bL, bW, bK, bH, bM⟩ := b3
    -- the last memory
    have e2 : m'.2 = m0.2 := b5.1
    have fE : Fr [] [] (mg c'' m') m' := by
      have e3 : m'.2 = (sJ c'' 112 (Int32.toNatClampNeg 0) t'.toInt64).2 := by rw [e2, hm0]; rfl
      refine ⟨?_, ?_, ?_, ?_, fun a h1 h2 => ?_, fun k hk => rfl⟩
      · show m'.2.1 = c''.2.1; rw [e3]; rfl
      · show m'.2.2.2.1 = c''.2.2.2.1; rw [e3]; rfl
      · show m'.2.2.2.2.1 = c''.2.2.2.2.1; rw [e3]; rfl
      · show m'.2.2.2.2.2.1 = c''.2.2.2.2.2.1; rw [e3]; rfl
      · by_cases q : 65 ≤ a ∧ a ≤ 111
        · rw [mg_m q]
        · rw [mg_c q, b5.2.1 a h1 (by simp only [List.mem_cons, List.not_mem_nil, or_false]; omega), hm0, mI_sI, if_neg h1]
          rfl
    have hrest : ∀ a, ¬ (65 ≤ a ∧ a ≤ 111) → mI m' a = mI c'' a := fun a q => by
      rw [b5.2.1 a (by omega) (by simp only [List.mem_cons, List.not_mem_nil, or_false]; omega), hm0, mI_sI, if_neg (by omega)]
      rfl
    have hC : mC m' = mC μ := by
      show m'.2.2.2.2.2.2.1 = μ.2.2.2.2.2.2.1
      rw [e2, hm0]
      show c''.2.2.2.2.2.2.1 = _
      rw [a4.1]
    have hSl : mS m' = mS μ := by
      show m'.2.2.2.2.2.2.2 = μ.2.2.2.2.2.2.2
      rw [e2, hm0]
      show c''.2.2.2.2.2.2.2 = _
      rw [a4.1]
    simp only [bd_some, p_let_eq, p_ok, mI_sI, mR_sI, mK_sI, mN_sI, mL_sI, mI_sG, mR_sG, mK_sG, mN_sG, mL_sG, mI_sJ, mR_sJ, mK_sJ, mN_sJ, mL_sJ, z_up, ↓reduceIte, and_self, true_and, and_true, false_and, and_false, not_true_eq_false, not_false_eq_true, Nat.reduceEqDiff, i_10, i_20, i_30, w_in, w_need1, w_need0, m_in, m_thr0, m_thr1, tM, aM, nI_1, nI_pred, reduceIte, wp_some, eq_self, bI_T, bI_F, F_L_days, F_X12_days, F_X13_days, F_X13_days_c21, s_o0 hS, s_r0_0 hS, s_r0_1 hS, s_r0_10 hS, s_r0_11 hS, s_r0_12 hS, s_r0_14 hS, s_r0_16 hS, s_r0_19 hS, s_r0_7 hS, s_r0_8 hS, s_r0_9 hS, s_o112 hSc, c1, a1]
    rw [← hm0, b2]
    simp only [wp_some]
    refine ⟨⟨?_, fun _ => ?_, Cn_eq hC hSl⟩, RLots_fr0 fE (by decide) (by decide) (by decide) (by decide) bL, RWater_fr fE (by decide) bW, ?_, fun j hj => ?_, ?_⟩
    · rw [Fq_sc b5 0 (by decide), hm0, mI_sI, if_pos rfl, z_up, if_pos rfl]
    · rw [Fq_J b5, hm0]; rfl
    · obtain ⟨⟨d, d1, d2, d3⟩, d4, d5⟩ := bM
      refine ⟨⟨d, d1, ?_, ?_⟩, ?_, ?_⟩
      · rw [Fr_row fE 0 (by decide)]; exact d2
      · rw [Fr_sc fE 42 (by decide)]; exact d3
      · rw [Fr_row fE 0 (by decide), Fr_sc fE 74 (by decide)]; exact d4
      · rw [Fr_row fE 0 (by decide), Fr_sc fE 75 (by decide)]; exact d5
    · rw [hrest 0 (by omega)]; exact a4.2.2 j hj
    · have eR : mR m' = mR μ := by rw [fE.1]; show c''.2.1 = μ.2.1; rw [a4.1]
      have eK : mK m' = mK μ := by rw [fE.2.1]; show c''.2.2.2.1 = μ.2.2.2.1; rw [a4.1]
      have eL : mL m' = mL μ := by rw [fE.2.2.1]; show c''.2.2.2.2.1 = μ.2.2.2.2.1; rw [a4.1]
      have eN : mN m' = mN μ := by rw [fE.2.2.2.1]; show c''.2.2.2.2.2.1 = μ.2.2.2.2.2.1; rw [a4.1]
      refine ⟨fun a _ _ => by rw [eR], fun a _ => ⟨by rw [eK], by rw [eL]⟩, by rw [eN]; exact Nat.le_refl _, ⟨by rw [eN]; exact hS.2.2.1, by rw [eN]; exact Nat.le_add_right _ _⟩, fun a h1 h2 h3 => ?_, fun k hk => ?_⟩
      · by_cases q : 65 ≤ a ∧ a ≤ 111
        · rw [b5.2.1 a h2 (fun hm => h3 (by simp only [List.mem_cons, List.not_mem_nil, or_false] at hm ⊢; omega)), hm0, mI_sI, if_neg h2]
          exact hrM a q.1 q.2
        · rw [hrest a q]
          exact hrow a h1 (fun hm => h3 (by simp only [List.mem_cons, List.not_mem_nil, or_false] at hm ⊢; omega))
      · rw [b5.2.2 k (fun hm => hk (List.mem_cons_of_mem _ hm)), hm0, mI_sI, if_pos rfl, z_up, if_neg (fun e => hk (by rw [e]; decide))]
        show mI c'' 65 k = mI μ 65 k
        rw [hrM 65 (by decide) (by decide)]
  · have f := @thr_fr μ 1
    have f' : Fr [] [0] μ (sI (sI (sG μ 1 6) 65 0 0) 65 0 1) := f
    simp only [bd_some, p_let_eq, p_ok, mI_sI, mR_sI, mK_sI, mN_sI, mL_sI, mI_sG, mR_sG, mK_sG, mN_sG, mL_sG, mI_sJ, mR_sJ, mK_sJ, mN_sJ, mL_sJ, z_up, ↓reduceIte, and_self, true_and, and_true, false_and, and_false, not_true_eq_false, not_false_eq_true, Nat.reduceEqDiff, i_10, i_20, i_30, w_in, w_need1, w_need0, m_in, m_thr0, m_thr1, tM, aM, nI_1, nI_pred, reduceIte, wp_some, eq_self, bI_T, bI_F, F_L_days, F_X12_days, F_X13_days, F_X13_days_c21, s_o0 hS, s_r0_0 hS, s_r0_1 hS, s_r0_10 hS, s_r0_11 hS, s_r0_12 hS, s_r0_14 hS, s_r0_16 hS, s_r0_19 hS, s_r0_7 hS, s_r0_8 hS, s_r0_9 hS, s_o112 hS, c1]
    refine ⟨thr_post (by decide), RLots_fr0 f' (by decide) (by decide) (by decide) (by decide) hRL, RWater_fr f' (by decide) hRW, hRM, fun _ _ => trivial, Fl_of hS (Fr_mono f' (by decide) (by decide))⟩
