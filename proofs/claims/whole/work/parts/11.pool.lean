/-! instructions that read the pool, or make a cell -/
theorem q_Ws_app {U : State} {H H1 : Heap} {A : Nat → Prop} {D : va_G} {xa : Nat → Nat} {ad : List Nat} {μ μ' : p_M} {ws : va_W} (h : q_Ws U H A D xa ad μ ws) (es : List (Nat × va_E)) (hP : va_P D vwCl (ws ++ es) H1) (hD : va_D A (ws ++ es))
    (hN : mN μ' = mN μ + es.length) (hC : mC μ' = mC μ + es.length) (hE : mN μ' < p_E) (ho : ∀ i, i < mN μ → mI μ' i = mI μ i ∧ mR μ' i = mR μ i ∧ mJ μ' i = mJ μ i ∧ mK μ' i = mK μ i ∧ mL μ' i = mL μ i)
    (hc : ∀ (j a : Nat) (e : va_E), es[j]? = some (a, e) → q_cell U xa (ad ++ es.map (fun x => x.1)) μ' (mN μ + j) e) : q_Ws U H1 A D xa (ad ++ es.map (fun x => x.1)) μ' (ws ++ es) := by
  obtain ⟨h1, h2, h3, h4, h5, h6, h7⟩ := h
  refine ⟨hP, hD, by simp [h3, hN], by simp [h4, hN], by omega, hE, fun i x y hi => ?_⟩
  by_cases hl : i < ws.length
  · rw [List.getElem?_append_left hl] at hi
    obtain ⟨g1, g2⟩ := h7 i x y hi
    obtain ⟨o1, o2, o3, o4, o5⟩ := ho i (by omega)
    exact ⟨by rw [List.getElem?_append_left (by omega)]; exact g1, q_cell_mono (List.prefix_append _ _) (q_cell_same o1 o2 o3 o4 o5 g2)⟩
  · rw [List.getElem?_append_right (by omega)] at hi
    have e1 : i = mN μ + (i - ws.length) := by omega
    refine ⟨?_, ?_⟩
    · rw [List.getElem?_append_right (by omega), List.getElem?_map, h4, ← h3, hi]
      rfl
    · have := hc (i - ws.length) x y hi
      rw [← e1] at this
      exact this
theorem q_vup {α : Type} {f : Nat → α} {a i : Nat} {v : α} (h : i ≠ a) : va_up f a v i = f i := va_up_ne f v h
theorem q_veq {α : Type} {f : Nat → α} {a : Nat} {v : α} : va_up f a v a = v := by simp [va_up]
/-- the fields of a new object -/
def q_fs (v : Nat) : List Value := (List.range (q_N v)).map (fun k => if p_isR v k = true then .null else .int 0)
theorem q_fs_ok : ∀ v : Nat, v < 15 → ∀ j : Nat, j < q_N v → defaultValue (q_Ty v j) = vp_V (q_fs v) j := by
  intro v hv j hj
  have e1 : vp_V (q_fs v) j = if p_isR v j = true then .null else .int 0 := by
    unfold vp_V q_fs
    rw [List.getD_eq_getElem?_getD, List.getElem?_map, List.getElem?_range hj]
    rfl
  rw [e1]
  rcases q_tyc v hv j hj with t | t | t
  · have : ¬ p_isR v j = true := by unfold p_isR; rw [t]; decide
    rw [if_neg this, t]; rfl
  · have : ¬ p_isR v j = true := by unfold p_isR; rw [t]; decide
    rw [if_neg this, t]; rfl
  · rw [if_pos t]
    unfold p_isR at t
    split at t
    · rename_i h; rw [h]; rfl
    · rename_i h; rw [h]; rfl
    · cases t
section QP
variable {p : Program} {l : Launch} {e : Env} {R : Room} {s : State} {m : MethodId} {args : Array Value} {below : List Frame} {meth : Method} {c : Code} {H : Heap} {locs : List Loc} {Q : State → Prop}
variable {X : p_X} {M : q_M} {D : va_G} {A : Nat → Prop} {xa : Nat → Nat} {nL c0 s0 : Nat} {ad0 ad : List Nat} {μ : p_M} {lo st : List Value} {ls : Array Slot} {sa : List Value} {pc : Nat}
/-- the room that is left -/
def q_Rm (R : Room) (c0 s0 : Nat) (μ μ' : p_M) : Prop := c0 ≤ mC μ ∧ s0 ≤ mS μ ∧ mC μ' ≤ c0 + R.cells ∧ mS μ' ≤ s0 + R.slots ∧ mC μ' < p_E
theorem q_cs {H : Heap} {locs : List Loc} {a b a' b' : Nat} {g : JFrame} (h1 : a = a') (h2 : b = b') (k : W p l e R s m args below meth c H locs a' b' Q g) : W p l e R s m args below meth c H locs a b Q g := by subst h1 h2; exact k
theorem q_ldcSW {own tx : String} {index q : Nat} {rest : List Value} {cells slots : Nat} {cc : ByteArray} (hexec : p.tables.exec = Jvm.exec) (hb : c.code = cc) (hown : s.vm.findClass own = some m.cls) (hZ : vk_R own index tx q s) (hdg : decode cc pc = .ok (.ldc_w index, 3))
    (k : W p l e R s m args below meth c H locs cells slots Q (F0 m (pc + 3) ls (.ref q :: rest))) : W p l e R s m args below meth c H locs cells slots Q (F0 m pc ls rest) := by
  intro T hT Y
  obtain ⟨t, a1, b1⟩ := k T hT Y
  exact ⟨t, Y.ldcStringW hexec hown (text := tx) (a := q) hZ.1 hZ.2 (g := F0 m pc ls rest) rfl (by rw [hb]; exact hdg) t a1, b1⟩
theorem q_aStr (k : Nat) : q_a xa ad (p_E + 10 + k) = some (xa (10 + k)) := by
  unfold q_a
  rw [if_neg (by omega), show p_E + 10 + k - p_E = 10 + k by omega]
theorem q_aE {k : Nat} : q_a xa ad (p_E + k) = some (xa k) := by
  unfold q_a
  rw [if_neg (by omega), show p_E + k - p_E = k by omega]
/-- one new cell -/
theorem q_mk {k len sl b pc' : Nat} {en : va_E} {st' sa' : List Value} {H1 : Heap} (hRm : q_Rm R c0 s0 μ (sN μ k len sl)) (P : q_Pt s A D xa nL ad0 H locs ad μ lo st ls sa) {ws : va_W} (w : q_Ws s H A D xa ad μ ws) (hs : q_st xa ad st' sa') (hP : va_P D vwCl (ws ++ [(b, en)]) H1) (hD : va_D A (ws ++ [(b, en)])) (hS : va_S A s.heap H1 locs)
    (hc : q_cell s xa (ad ++ [b]) (sN μ k len sl) (mN μ) en) (K : q_Nx p l e R s m args below meth c Q D A xa nL c0 s0 ad0 (pc', lo, .ref (mN μ) :: st', sN μ k len sl)) : W p l e R s m args below meth c H1 locs (mC μ - c0 + 1) (mS μ - s0 + sl) Q (F0 m pc' ls (.ref b :: sa')) := by
  obtain ⟨r1, r2, r3, r4, r5⟩ := hRm
  have hC : mC (sN μ k len sl) = mC μ + 1 := rfl
  have hSl : mS (sN μ k len sl) = mS μ + sl := rfl
  have hpre : ad <+: ad ++ [b] := List.prefix_append _ _
  have hw := q_Ws_push (μ' := sN μ k len sl) w hP hD rfl rfl (by have := w.2.2.2.2.1; omega) (fun i hi => ⟨q_vup hi, q_vup hi, q_vup hi, q_vup hi, q_vup hi⟩) hc
  refine q_cs (a' := mC (sN μ k len sl) - c0) (b' := mS (sN μ k len sl) - s0) (by omega) (by omega) ?_
  refine K H1 locs (ad ++ [b]) ls (.ref b :: sa') ⟨⟨_, hw⟩, hS, q_lo_mono hpre P.2.2.1, ⟨_, _, rfl, ⟨b, ?_, rfl⟩, q_st_mono hpre hs⟩, P.2.2.2.2.trans hpre⟩
  unfold q_a
  rw [if_pos w.2.2.2.2.2.1, List.getElem?_append_right (by rw [w.2.2.2.1]; exact Nat.le_refl _), w.2.2.2.1, Nat.sub_self]
  rfl
theorem q_p_newarray {t : ArrayType} {n : Int32} {kd : Nat} {r : List Value} {a0 : vp_A} {ty : FieldType} (hty : newarray.typeOf t = ty) (hq : q_ty kd = ty) (hkd : kd = 20 ∨ kd = 21 ∨ kd = 22) (hw : Cond.arrayClass ty ∈ lw_tbl) (hn : ¬ (n < 0 ∨ 100000 < n.toNatClampNeg)) (hby : componentBytes ty ≤ 8)
    (ha : ∀ cA : ClassId, vp_cell cA a0 = arrV cA n.toNatClampNeg (fun _ => defaultValue ty)) (ha1 : a0.1 = n.toNatClampNeg) (hr : ∀ cA, q_row xa (ad ++ [cA]) (sN μ kd n.toNatClampNeg n.toNatClampNeg) (mN μ) a0.2)
    (hd : decode (q_cc M) pc = .ok (.newarray t, 2)) (hRm : q_Rm R c0 s0 μ (sN μ kd n.toNatClampNeg n.toNatClampNeg)) (C : q_Ctx p s m args meth c M D A) (P : q_Pt s A D xa nL ad0 H locs ad μ lo (.int n :: r) ls sa)
    (K : q_Nx p l e R s m args below meth c Q D A xa nL c0 s0 ad0 (pc + 2, lo, .ref (mN μ) :: r, sN μ kd n.toNatClampNeg n.toNatClampNeg)) : W p l e R s m args below meth c H locs (mC μ - c0) (mS μ - s0) Q (F0 m pc ls sa) := by
  obtain ⟨v1, r1, e1, h1, h3⟩ := P.2.2.2.1
  have h1 : v1 = .int n := h1
  subst e1 h1
  obtain ⟨ws, w⟩ := P.1
  have hRm' := hRm
  obtain ⟨q1, q2, q3, q4, q5⟩ := hRm'
  have hC : mC (sN μ kd n.toNatClampNeg n.toNatClampNeg) = mC μ + 1 := rfl
  have hSl : mS (sN μ kd n.toNatClampNeg n.toNatClampNeg) = mS μ + n.toNatClampNeg := rfl
  refine va_newa C.1 C.2.1 (C.2.2.2.2.2.2.1 _ (q_tbl_in (by rw [hty]; exact hw) rfl)) hty C.2.2.2.2.2.2.2.2.2.1 w.1 w.2.1 P.2.1 C.2.2.2.2.2.2.2.2.2.2 ha (fun z => hn (Or.inl z)) rfl ?_ (by omega) (by omega) hd (fun q cA H1 hK hP hD hS => ?_)
  · have : n.toNatClampNeg ≤ 100000 := by have := fun z => hn (Or.inr z); omega
    have h8 := Nat.mul_le_mul this hby
    omega
  · refine q_mk hRm P w h3 hP hD hS ?_ K
    have hkk : mK (sN μ kd n.toNatClampNeg n.toNatClampNeg) (mN μ) = kd := q_veq
    refine ⟨by rw [hkk]; omega, ?_, ?_, hr q⟩
    · rw [hkk, hq]
      have := hK.2 0 (cA, ty) rfl
      exact this
    · show a0.1 = va_up (mL μ) (mN μ) n.toNatClampNeg (mN μ)
      rw [q_veq]; exact ha1
theorem q_p_anew {k kd cl : Nat} {n : Int32} {r : List Value} (hl : q_lC (q_o M) k = some cl) (hk : (kd = 23 ∧ cl = 4) ∨ (kd = 24 ∧ cl = 6)) (hn : ¬ (n < 0 ∨ 100000 < n.toNatClampNeg)) (hd : decode (q_cc M) pc = .ok (.anewarray k, 3)) (hRm : q_Rm R c0 s0 μ (sN μ kd n.toNatClampNeg n.toNatClampNeg)) (C : q_Ctx p s m args meth c M D A) (G : q_G X xa A s) (P : q_Pt s A D xa nL ad0 H locs ad μ lo (.int n :: r) ls sa)
    (K : q_Nx p l e R s m args below meth c Q D A xa nL c0 s0 ad0 (pc + 3, lo, .ref (mN μ) :: r, sN μ kd n.toNatClampNeg n.toNatClampNeg)) : W p l e R s m args below meth c H locs (mC μ - c0) (mS μ - s0) Q (F0 m pc ls sa) := by
  obtain ⟨v1, r1, e1, h1, h3⟩ := P.2.2.2.1
  have h1 : v1 = .int n := h1
  subst e1 h1
  obtain ⟨ws, w⟩ := P.1
  have hRm' := hRm
  obtain ⟨q1, q2, q3, q4, q5⟩ := hRm'
  have hC : mC (sN μ kd n.toNatClampNeg n.toNatClampNeg) = mC μ + 1 := rfl
  have hSl : mS (sN μ kd n.toNatClampNeg n.toNatClampNeg) = mS μ + n.toNatClampNeg := rfl
  have hao : va_AO (q_on cl) s := by
    rcases hk with ⟨-, h⟩ | ⟨-, h⟩ <;> subst h
    · exact G.2.2.2.2.1.1
    · exact G.2.2.2.2.1.2.1
  have hqt : q_ty kd = .object (q_on cl) := by rcases hk with ⟨h, h'⟩ | ⟨h, h'⟩ <;> subst h h' <;> rfl
  refine va_newq C.1 C.2.1 C.2.2.2.2.2.1 (C.2.2.2.2.2.2.1 _ (q_tbl_in (kC _ _ _ hl).1 rfl)) hao C.2.2.2.2.2.2.2.2.2.1 w.1 w.2.1 P.2.1 C.2.2.2.2.2.2.2.2.2.2 (fun z => hn (Or.inl z)) rfl (by have := fun z => hn (Or.inr z); omega) (by omega) (by omega) hd (fun q cA H1 hK hP hD hS => ?_)
  refine q_mk hRm P w h3 hP hD hS ?_ K
  have hkk : mK (sN μ kd n.toNatClampNeg n.toNatClampNeg) (mN μ) = kd := q_veq
  refine ⟨by rw [hkk]; rcases hk with ⟨h, -⟩ | ⟨h, -⟩ <;> omega, ?_, ?_, ?_⟩
  · rw [hkk, hqt]
    exact hK.2 0 _ rfl
  · show n.toNatClampNeg = va_up (mL μ) (mN μ) n.toNatClampNeg (mN μ)
    rw [q_veq]
  · refine ⟨by rw [hkk]; rcases hk with ⟨h, -⟩ | ⟨h, -⟩ <;> omega, fun j => ?_⟩
    show q_ref xa _ (va_up (mR μ) (mN μ) (fun _ => none) (mN μ) j) none
    rw [q_veq]
    rfl
theorem q_p_new {k v : Nat} (hl : q_lC (q_o M) k = some v) (hd : decode (q_cc M) pc = .ok (.new k, 3)) (hRm : q_Rm R c0 s0 μ (sN μ v 0 (q_N v))) (C : q_Ctx p s m args meth c M D A) (P : q_Pt s A D xa nL ad0 H locs ad μ lo st ls sa)
    (K : q_Nx p l e R s m args below meth c Q D A xa nL c0 s0 ad0 (pc + 3, lo, .ref (mN μ) :: st, sN μ v 0 (q_N v))) : W p l e R s m args below meth c H locs (mC μ - c0) (mS μ - s0) Q (F0 m pc ls sa) := by
  obtain ⟨ws, w⟩ := P.1
  have hRm' := hRm
  obtain ⟨q1, q2, q3, q4, q5⟩ := hRm'
  have hC : mC (sN μ v 0 (q_N v)) = mC μ + 1 := rfl
  have hSl : mS (sN μ v 0 (q_N v)) = mS μ + q_N v := rfl
  obtain ⟨c1, hv⟩ := kC _ _ _ hl
  obtain ⟨n1, n2, n3⟩ := kN v hv
  refine va_new (fs := q_fs v) C.1 C.2.1 C.2.2.2.2.2.2.1 (q_uws hv) (q_Ty v) (fun k hk => kTy v k hv hk) C.2.2.2.2.2.1 (C.2.2.2.2.2.2.1 _ (q_tbl_in c1 rfl)) (C.2.2.2.2.2.2.1 _ (q_tbl_in n1 rfl)) (C.2.2.2.2.2.2.1 _ (q_tbl_in n2 rfl)) C.2.2.2.2.2.2.2.2.2.1 w.1 w.2.1 P.2.1 C.2.2.2.2.2.2.2.2.2.2 n3 (fun j hj => q_fs_ok v hv j hj) (by omega) (by omega) hd (fun q H1 hP hD hS => ?_)
  refine q_mk hRm P w P.2.2.2.1 hP hD hS ?_ K
  refine ⟨q_veq, hv, by simp [q_fs], fun j hj => ⟨if p_isR v j = true then .null else .int 0, ?_, ?_⟩⟩
  · unfold q_fs
    rw [List.getElem?_map, List.getElem?_range hj]
    rfl
  · unfold q_fld
    by_cases hr : p_isR v j = true
    · rw [if_pos hr, if_pos hr]
      refine ⟨none, ?_, rfl⟩
      show q_ref xa _ (va_up (mR μ) (mN μ) (fun _ => none) (mN μ) j) none
      rw [q_veq]
      rfl
    · rw [if_neg hr, if_neg hr]
      show Value.int 0 = .int (va_up (mI μ) (mN μ) (fun _ => 0) (mN μ) j)
      rw [q_veq]
end QP
