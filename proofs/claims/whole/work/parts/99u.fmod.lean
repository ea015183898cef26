/-! a body of the JDK whose class is no plain name but has no native row of its own; Math.floorMod -/
theorem vz_ofW {l : Launch} {y : MethodName} {ws ws' : List Cond} {rm : Room} {Pc : Array Value → State → Prop} {Qc : Array Value → State → Outcome → State → Prop} {XC : String → State → State → Prop} {mc ms : Nat} {free : Addr → Prop} {cc : ByteArray} {maxL : Nat} {ret : Option FieldType}
    (hy : plainFor y = true) (hw : ws = Cond.code y cc maxL ret :: ws')
    (body : ∀ p e s m args below meth c s₁, BodyLoose p l y (headSpec ws rm) cc maxL ret e s m args below meth c s₁ → c.maxLocals = maxL → (∀ x ∈ c.exceptionTable.toList, False) → Pc args s →
      W p l e (headSpec ws rm).room s m args below meth c s.heap [] 0 0 (vx_MQ below Qc XC args s mc ms free) (entryFrame m args maxL)) : vx_Met l y ws rm Pc Qc XC mc ms free := by
  refine MetFree.of_bodySF (code := cc) (maxLocals := maxL) (ret := ret) hy ?_ ?_
  · intro args s m h hn
    obtain ⟨meth, c, h1, h2, h3, h4, h5, h6, -, -⟩ := Cond.code_spec hn (atoms_spec (ws := ws) h _ (by rw [hw]; exact List.mem_cons_self))
    exact ⟨meth, c, h1, h2, h3, h4, h5, h6⟩
  · intro p e s m args below meth c s₁ B hml hP _
    have hh0 : s₁.heap = s.heap := by rw [B.state]; rfl
    have ht : ∀ x ∈ c.exceptionTable.toList, False := by
      obtain ⟨meth9, c9, h1, h2, -, -, -, -, h7, -⟩ := Cond.code_spec B.named (atoms_spec (ws := ws) B.pre _ (by rw [hw]; exact List.mem_cons_self))
      cases Option.some.inj (h1.symm.trans B.method)
      cases Option.some.inj (h2.symm.trans (Stand.of_body B).code)
      intro x hx
      rw [Array.isEmpty_iff.mp h7] at hx
      cases hx
    obtain ⟨t, a1, o, b1, b2, b3⟩ := body p e s m args below meth c s₁ B hml ht hP s₁ hh0 (Stand.of_body B)
    exact ⟨t, o, a1, b1, b2, b3⟩
theorem dfm_0 : decode cJ9_floorMod_7cf53 0 = .ok (.iload_n 0, 1) := by decide +kernel
theorem dfm_1 : decode cJ9_floorMod_7cf53 1 = .ok (.iload_n 1, 1) := by decide +kernel
theorem dfm_2 : decode cJ9_floorMod_7cf53 2 = .ok (.irem, 1) := by decide +kernel
theorem dfm_3 : decode cJ9_floorMod_7cf53 3 = .ok (.istore_n 2, 1) := by decide +kernel
theorem dfm_4 : decode cJ9_floorMod_7cf53 4 = .ok (.iload_n 0, 1) := by decide +kernel
theorem dfm_5 : decode cJ9_floorMod_7cf53 5 = .ok (.iload_n 1, 1) := by decide +kernel
theorem dfm_6 : decode cJ9_floorMod_7cf53 6 = .ok (.ixor, 1) := by decide +kernel
theorem dfm_7 : decode cJ9_floorMod_7cf53 7 = .ok (.ifCond .ge 11, 3) := by decide +kernel
theorem dfm_10 : decode cJ9_floorMod_7cf53 10 = .ok (.iload_n 2, 1) := by decide +kernel
theorem dfm_11 : decode cJ9_floorMod_7cf53 11 = .ok (.ifCond .eq 7, 3) := by decide +kernel
theorem dfm_14 : decode cJ9_floorMod_7cf53 14 = .ok (.iload_n 2, 1) := by decide +kernel
theorem dfm_15 : decode cJ9_floorMod_7cf53 15 = .ok (.iload_n 1, 1) := by decide +kernel
theorem dfm_16 : decode cJ9_floorMod_7cf53 16 = .ok (.iadd, 1) := by decide +kernel
theorem dfm_17 : decode cJ9_floorMod_7cf53 17 = .ok (.ireturn, 1) := by decide +kernel
theorem dfm_18 : decode cJ9_floorMod_7cf53 18 = .ok (.iload_n 2, 1) := by decide +kernel
theorem dfm_19 : decode cJ9_floorMod_7cf53 19 = .ok (.ireturn, 1) := by decide +kernel
/-- what is left of a division has the sign of what was divided -/
theorem rem_i (x y : Int32) : (x - x / y * y).toInt = x.toInt.tmod y.toInt := by
  have h1 : (x - x / y * y).toInt = (x.toInt - x.toInt.tdiv y.toInt * y.toInt).bmod (2 ^ 32) := by
    rw [Int32.toInt_sub, Int32.toInt_mul, Int32.toInt_div, Int.sub_bmod_bmod]
    have e : x.toInt - (x.toInt.tdiv y.toInt).bmod (2 ^ 32) * y.toInt = x.toInt - ((x.toInt.tdiv y.toInt).bmod (2 ^ 32) * y.toInt) := rfl
    rw [← Int.sub_bmod_bmod, Int.bmod_mul_bmod, Int.sub_bmod_bmod]
  have h2 : x.toInt - x.toInt.tdiv y.toInt * y.toInt = x.toInt.tmod y.toInt := by
    rw [Int.tmod_def, Int.mul_comm]
  rw [h1, h2]
  have h3 : (x.toInt.tmod y.toInt).natAbs ≤ x.toInt.natAbs := by
    rw [Int.natAbs_tmod]
    exact Nat.mod_le _ _
  have h4 := x.le_toInt
  have h5 := x.toInt_lt
  have h6 : 0 ≤ x.toInt → 0 ≤ x.toInt.tmod y.toInt := fun h => Int.tmod_nonneg _ h
  have h7 : x.toInt < 0 → x.toInt.tmod y.toInt ≤ 0 := fun h => by
    have k1 := Int.tmod_nonneg y.toInt (show 0 ≤ -x.toInt by omega)
    rw [Int.neg_tmod] at k1
    omega
  refine Int.bmod_eq_of_le ?_ ?_
  · omega
  · omega
theorem rem_s {x y : Int32} (h : ¬ x - x / y * y = 0) : (x - x / y * y < 0 ↔ x < 0) := by
  have e := rem_i x y
  have hz : ¬ x.toInt.tmod y.toInt = 0 := fun z => h (Int32.toInt_inj.mp (by rw [e, z]; rfl))
  rw [Int32.lt_iff_toInt_lt, Int32.lt_iff_toInt_lt, e]
  have z0 : (0 : Int32).toInt = 0 := rfl
  rw [z0]
  constructor
  · intro q
    refine Classical.byContradiction fun c => ?_
    have := Int.tmod_nonneg y.toInt (show 0 ≤ x.toInt by omega)
    omega
  · intro q
    have k1 := Int.tmod_nonneg y.toInt (show 0 ≤ -x.toInt by omega)
    rw [Int.neg_tmod] at k1
    omega
theorem xor_s (a b : Int32) : (a ^^^ b < 0) ↔ ¬ ((a < 0) ↔ (b < 0)) := by
  have h : ∀ c : Int32, (c < 0) ↔ c.toBitVec.msb = true := fun c => by
    rw [Int32.lt_iff_toInt_lt, BitVec.msb_eq_toInt]
    show c.toInt < 0 ↔ decide (c.toInt < 0) = true
    rw [decide_eq_true_iff]
  rw [h, h, h, Int32.toBitVec_xor, BitVec.msb_xor]
  cases a.toBitVec.msb <;> cases b.toBitVec.msb <;> simp
theorem fm_xy (x y : Int32) : p_fm x y = if x ^^^ y < 0 ∧ ¬ x - x / y * y = 0 then x - x / y * y + y else x - x / y * y := by
  unfold p_fm
  dsimp only
  by_cases h : x - x / y * y = 0
  · rw [if_neg (fun z => z.2 h), if_neg (fun z => z.2 h)]
  · have e : (x - x / y * y) ^^^ y < 0 ↔ x ^^^ y < 0 := by rw [xor_s, xor_s, rem_s h]
    by_cases c : x ^^^ y < 0
    · rw [if_pos ⟨e.mpr c, h⟩, if_pos ⟨c, h⟩]
    · rw [if_neg (fun z => c (e.mp z.1)), if_neg (fun z => c z.1)]
theorem j_fmod {X : p_X} {l : Launch} {D : va_G} {A : Nat → Prop} {xa : Nat → Nat} {ad : List Nat} {μ : p_M} {x y : Int32} (hy : ¬ y = 0) : vx_Met l yJ9_floorMod_7cf53 (Cond.code yJ9_floorMod_7cf53 cJ9_floorMod_7cf53 3 (some .int) :: q_tbl) { frames := 0, cells := 0, slots := 0, locals := 0 } (q_Pc X D A xa ad μ [.int x, .int y]) (q_Po D A xa ad ((0, some (.int (p_fm x y))), μ)) (q_Px D A xa ad ((0, some (.int (p_fm x y))), μ)) 0 0 A := by
  refine vz_ofW (cc := cJ9_floorMod_7cf53) (maxL := 3) (ret := some .int) (by decide +kernel) rfl (fun p e s m args below meth c s₁ B hml ht hv => ?_)
  obtain ⟨e0, hW, hG, hK, hA⟩ := hv
  subst e0
  have hx := B.exec
  have hb := B.bytes
  have hr := B.returns
  have hlocks := B.notSynchronized
  have hl := lv_entry ([.int x, .int y]) (n := 3) (Nat.le_of_ble_eq_true rfl)
  rw [lg_entry_eq]
  generalize (lg_sl ([.int x, .int y]) ++ List.replicate (3 - (lg_sl ([.int x, .int y])).length) Slot.unset).toArray = ls at hl ⊢
  have hl : lv_has ls 3 [(0, .int x), (1, .int y)] := hl
  have fin : ∀ (w : Int32) (ls : Array Slot) (lv : List (Nat × Value)), w = p_fm x y → ls[2]? = some (.val (.int w)) → W p l e (headSpec (Cond.code yJ9_floorMod_7cf53 cJ9_floorMod_7cf53 3 (some .int) :: q_tbl) { frames := 0, cells := 0, slots := 0, locals := 0 }).room s m ([.int x, .int y] : List Value).toArray below meth c s.heap [] 0 0 (vx_MQ below (q_Po D A xa ad ((0, some (.int (p_fm x y))), μ)) (q_Px D A xa ad ((0, some (.int (p_fm x y))), μ)) ([.int x, .int y] : List Value).toArray s 0 0 A) (F0 m 18 ls []) := fun w ls lv ew hw => by
    refine lv_iload_n hx hb dfm_18 rfl hw ?_
    exact vx_ret (W.iret hx hb hr (fun t ht hWt => ⟨rfl, ⟨ad, List.prefix_refl _, by rw [ht]; exact q_W_moved hWt.alike hW, _, rfl, ⟨_, rfl, by rw [ew]; rfl⟩⟩, q_F va_S.rf ht⟩) (fun q hq => nomatch hq) dfm_19 hlocks)
  refine lv_iload_n hx hb dfm_0 rfl (lv_at hl 0 rfl) ?_
  refine lv_iload_n hx hb dfm_1 rfl (lv_at hl 1 rfl) ?_
  refine lv_irem hx hb dfm_2 hy ?_
  refine lv_istore_n (lv' := [(2, .int (x - x / y * y)), (0, .int x), (1, .int y)]) hx hb dfm_3 rfl hl (by decide) rfl (fun ls hl => ?_)
  refine lv_iload_n hx hb dfm_4 rfl (lv_at hl 1 rfl) ?_
  refine lv_iload_n hx hb dfm_5 rfl (lv_at hl 2 rfl) ?_
  refine lv_ixor hx hb dfm_6 ?_
  refine lv_if_ge (tgt := 18) hx hb dfm_7 rfl (fun h => ?_) (fun h => ?_)
  · refine fin _ ls [] ?_ (lv_at hl 0 rfl)
    rw [fm_xy]
    exact (if_neg (fun z => i_nle.mpr z.1 h)).symm
  · refine lv_iload_n hx hb dfm_10 rfl (lv_at hl 0 rfl) ?_
    refine lv_if_eq (tgt := 18) hx hb dfm_11 rfl (fun h0 => ?_) (fun h0 => ?_)
    · refine fin _ ls [] ?_ (lv_at hl 0 rfl)
      rw [fm_xy]
      exact (if_neg (fun z => z.2 h0)).symm
    · refine lv_iload_n hx hb dfm_14 rfl (lv_at hl 0 rfl) ?_
      refine lv_iload_n hx hb dfm_15 rfl (lv_at hl 2 rfl) ?_
      refine lv_iadd hx hb dfm_16 ?_
      refine vx_ret (W.iret hx hb hr (fun t ht hWt => ⟨rfl, ⟨ad, List.prefix_refl _, by rw [ht]; exact q_W_moved hWt.alike hW, _, rfl, ⟨_, rfl, ?_⟩⟩, q_F va_S.rf ht⟩) (fun q hq => nomatch hq) dfm_17 hlocks)
      rw [fm_xy, if_pos ⟨i_nle.mp h, h0⟩]
      rfl
theorem kFm1 : Cond.static yJ9_floorMod_7cf53 ∈ lw_tbl := List.mem_of_getElem? (i := 1561) (by decide +kernel)
theorem kFm2 : Cond.code yJ9_floorMod_7cf53 cJ9_floorMod_7cf53 3 (some .int) ∈ lw_tbl := List.mem_of_getElem? (i := 1562) (by decide +kernel)
section QPS
variable {p : Program} {l : Launch} {e : Env} {R : Room} {s : State} {m : MethodId} {args : Array Value} {below : List Frame} {meth : Method} {c : Code} {H : Heap} {locs : List Loc} {Q : State → Prop}
variable {X : p_X} {M : q_M} {D : va_G} {A : Nat → Prop} {xa : Nat → Nat} {c0 s0 : Nat} {ad0 ad : List Nat} {μ μ1 : p_M} {lo st : List Value} {ls : Array Slot} {sa as rest : List Value} {pc kx : Nat} {v : Option Value}
theorem q_pr3 (hl : q_lP (q_o M) kx = some 3) (hp : p_pop 2 st = some (as, rest)) (hx : p_prim X 3 as μ = some (v, μ1)) (hd : decode (q_cc M) pc = .ok (.invokestatic kx, 3)) (hRm : q_Rm R c0 s0 μ μ1) (hdR : q_dR 0 R) (C : q_Ctx p s m args meth c M D A) (G : q_G X xa A s) (P : q_Pt s A D xa (q_ml M) ad0 H locs ad μ lo st ls sa)
    (K : q_Nx p l e R s m args below meth c Q D A xa (q_ml M) c0 s0 ad0 (pc + 3, lo, v.toList ++ rest, μ1)) : W p l e R s m args below meth c H locs (mC μ - c0) (mS μ - s0) Q (F0 m pc ls sa) := by
  obtain ⟨aA, rA, g1, g2, g3, g4, g5, g6⟩ := q_pop hp P.2.2.2.1
  obtain ⟨x, y, rfl⟩ := pr_ii (by omega) g4 hx
  have hy : ¬ y = 0 := fun z => by
    rw [show p_prim X 3 [.int x, .int y] μ = (if y = 0 then none else some (some (.int (p_fm x y)), μ)) from rfl, if_pos z] at hx
    cases hx
  rw [show p_prim X 3 [.int x, .int y] μ = (if y = 0 then none else some (some (.int (p_fm x y)), μ)) from rfl, if_neg hy] at hx
  cases hx
  obtain ⟨v1, r1, e1, h1, v2, r2, e2, h2, h3⟩ := g2
  have h1 : v1 = .int x := h1
  have h2 : v2 = .int y := h2
  have h3 : r2 = [] := h3
  subst e1 h1 e2 h2 h3
  have hw : ∀ w, w ∈ lw_tbl → goodWord w = true → w.before args s = true := fun w h1 h2 => C.2.2.2.2.2.2.1 _ (q_tbl_in h1 h2)
  have S : CallFix p m c (q_cc M) (q_ml M) s args q_tbl (q_on (q_o M)) := ⟨C.1, C.2.1, C.2.2.1, C.2.2.2.2.2.1, C.2.2.2.2.2.2.1⟩
  have hM := q_met0 (j_fmod (X := X) (l := l) (D := D) (A := A) (xa := xa) (ad := ad) (μ := μ) (x := x) (y := y) hy) rfl
  have cb : CallB R s args (q_on (q_o M)) kx yJ9_floorMod_7cf53 cJ9_floorMod_7cf53 3 (some .int) (Cond.code yJ9_floorMod_7cf53 cJ9_floorMod_7cf53 3 (some .int) :: q_tbl) { frames := 0, cells := 0, slots := 0, locals := 0 } 0 0 2 :=
    callB_of (ws' := q_tbl) 2 C.2.2.2.2.2.2.1 (q_GI kFm2 rfl) rfl rfl rfl (hw _ kMi rfl) (hw _ (kP _ _ _ hl) rfl) ⟨by decide +kernel, by decide +kernel, by decide +kernel⟩ ⟨by have := hdR.1; show 0 + 1 ≤ R.frames; omega, by have := hdR.2; show 8 + (3 + 11) + 0 ≤ R.locals; omega⟩
  have t2 := va_runS (g := F0 m pc ls sa) (H := H) (locs := locs) (cells := mC μ - c0) (slots := mS μ - s0) (e := e) (below := below) (meth := meth) (As := [.int x, .int y]) (rest := rA) S hM ⟨cb, hw _ kFm1 rfl⟩ ⟨q_Pc_blind, fun U hU hW => q_Pc_at C G P U hU hW⟩ rfl rfl (q_size P) g1 (lv_room g5) hd ⟨by have := hRm.2.2.1; omega, by have := hRm.2.2.2.1; omega⟩
  refine q_after t2 P.2.1 (fun w H1 locs1 ad1 k1 k2 k3 k4 => ?_)
  obtain ⟨z, k5, k6⟩ := k3
  subst k5
  exact K H1 locs1 ad1 ls _ ⟨k2, k4, q_lo_mono k1 P.2.2.1, ⟨_, _, rfl, k6, q_st_mono k1 g3⟩, P.2.2.2.2.trans k1⟩
end QPS
