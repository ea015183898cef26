/-! the rest of the pool's instructions -/
section QP2
variable {p : Program} {l : Launch} {e : Env} {R : Room} {s : State} {m : MethodId} {args : Array Value} {below : List Frame} {meth : Method} {c : Code} {H : Heap} {locs : List Loc} {Q : State → Prop}
variable {X : p_X} {M : q_M} {D : va_G} {A : Nat → Prop} {xa : Nat → Nat} {nL c0 s0 : Nat} {ad0 ad : List Nat} {μ : p_M} {lo st : List Value} {ls : Array Slot} {sa : List Value} {pc : Nat}
theorem kI1 : Cond.arrayClass .int ∈ lw_tbl := List.mem_of_getElem? (i := 173) (by decide +kernel)
theorem kI2 : Cond.arrayClass .byte ∈ lw_tbl := List.mem_of_getElem? (i := 148) (by decide +kernel)
theorem kI3 : Cond.arrayClass .long ∈ lw_tbl := List.mem_of_getElem? (i := 2212) (by decide +kernel)
theorem kI4 : Cond.classLink (q_on 8) 20 ("[" ++ (FieldType.array .int).toString) ∈ lw_tbl := List.mem_of_getElem? (i := 405) (by decide +kernel)
theorem kI5 : Cond.classLink (q_on 2) 16 "[I" ∈ lw_tbl := List.mem_of_getElem? (i := 188) (by decide +kernel)
theorem kI6 : Cond.fieldLink (q_on 2) 9 "TrouserWash$House" "AT_FIRST" "[I" ∈ lw_tbl := List.mem_of_getElem? (i := 180) (by decide +kernel)
theorem kI7 : Cond.fieldLink (q_on 10) 73 "TrouserWash$Search" "AMOUNTS" "[I" ∈ lw_tbl := List.mem_of_getElem? (i := 944) (by decide +kernel)
/-- the class of an array of ints -/
theorem q_cInt (C : q_Ctx p s m args meth c M D A) : ∃ cy : ClassId, s.vm.findClass (FieldType.array .int).toString = some cy ∧ ArrOfT s cy .int ∧ va_RA s cy .int := by
  obtain ⟨cB, kB, comp, h1, h2, h3⟩ := Cond.arrayClass_spec (C.2.2.2.2.2.2.1 _ (q_tbl_in kI1 rfl))
  exact ⟨cB, h1, fun n z => ⟨fun k h => (by cases h), kB, h2, comp, h3⟩, h1⟩
def p_mna (μ : p_M) : p_M := sR (sR (sN (sN (sN μ 26 2 2) 20 96 96) 20 96 96) (mN μ) 0 (some (mN μ + 1))) (mN μ) 1 (some (mN μ + 2))
theorem q_p_mna {r : List Value} (ho : q_o M = 8) (hd : decode (q_cc M) pc = .ok (.multianewarray 20 2, 4)) (hRm : q_Rm R c0 s0 μ (p_mna μ)) (C : q_Ctx p s m args meth c M D A) (G : q_G X xa A s) (P : q_Pt s A D xa nL ad0 H locs ad μ lo (.int 96 :: .int 2 :: r) ls sa)
    (K : q_Nx p l e R s m args below meth c Q D A xa nL c0 s0 ad0 (pc + 4, lo, .ref (mN μ) :: r, p_mna μ)) : W p l e R s m args below meth c H locs (mC μ - c0) (mS μ - s0) Q (F0 m pc ls sa) := by
  obtain ⟨v1, r1, e1, h1, v2, r2, e2, h2, h3⟩ := P.2.2.2.1
  have h1 : v1 = .int 96 := h1
  have h2 : v2 = .int 2 := h2
  subst e1 h1 e2 h2
  obtain ⟨ws, w⟩ := P.1
  obtain ⟨q1, q2, q3, q4, q5⟩ := hRm
  have hC : mC (p_mna μ) = mC μ + 3 := rfl
  have hSl : mS (p_mna μ) = mS μ + 2 + 96 + 96 := rfl
  have hNn : mN (p_mna μ) = mN μ + 3 := rfl
  obtain ⟨cy, hy1, hy2⟩ := q_cInt C
  have hown := C.2.2.2.2.2.1
  rw [ho] at hown
  refine va_mna (X := ws) (L := []) (f := fun _ => .inr (0, [])) (N' := 2) (K' := 96) (z := (96, .inl (fun _ => 0))) C.1 C.2.1 hown (C.2.2.2.2.2.2.1 _ (q_tbl_in kI4 rfl)) G.2.2.2.2.1.2.2.2 (C.2.2.2.2.2.2.1 _ (q_tbl_in kI1 rfl)) hy1 C.2.2.2.2.2.2.2.2.2.1 (by simpa [va_pl] using w.1) (by simpa [va_pl] using w.2.1) P.2.1 C.2.2.2.2.2.2.2.2.2.2 (by decide) (by decide) (by decide) (by decide) (by decide) (by decide) (by decide) rfl rfl (by omega) (by omega) (fun cc => ?_) hd (fun q rr cA H1 hinj hnot hK hP hD hS => ?_)
  · show _ = arrV cc 96 (fun _ => Value.int 0)
    rw [← arrV_new]
    rfl
  · have er : (List.range 2).map rr = [rr 0, rr 1] := rfl
    rw [er] at hP hD
    have elist : (ws ++ [(q, Sum.inl (cA, 2, .inr (.inr (.inr (.inr (fun i => if i < 2 then some (rr i) else none))))))]) ++ va_pl ([] ++ [rr 0, rr 1]) (vr_up (fun _ => .inr (0, [])) [rr 0, rr 1] (.inl (cy, 96, .inl (fun _ => 0)))) = ws ++ ([(q, .inl (cA, 2, .inr (.inr (.inr (.inr (fun i => if i < 2 then some (rr i) else none)))))), (rr 0, .inl (cy, 96, .inl (fun _ => 0))), (rr 1, .inl (cy, 96, .inl (fun _ => 0)))] : va_W) := by
      simp [va_pl, vr_up]
    rw [elist] at hP hD
    have hE := w.2.2.2.2.1
    have hw := q_Ws_app (μ' := p_mna μ) w _ hP hD rfl rfl (by omega) (fun i hi => ?_) (fun j a en hj => ?_)
    · have hpre : ad <+: ad ++ [q, rr 0, rr 1] := List.prefix_append _ _
      refine q_cs (a' := mC (p_mna μ) - c0) (b' := mS (p_mna μ) - s0) (by omega) (by omega) ?_
      refine K H1 locs (ad ++ [q, rr 0, rr 1]) ls (.ref q :: r2) ⟨⟨_, hw⟩, hS, q_lo_mono hpre P.2.2.1, ⟨_, _, rfl, ⟨q, ?_, rfl⟩, q_st_mono hpre h3⟩, P.2.2.2.2.trans hpre⟩
      unfold q_a
      rw [if_pos w.2.2.2.2.2.1, List.getElem?_append_right (by rw [w.2.2.2.1]; exact Nat.le_refl _), w.2.2.2.1, Nat.sub_self]
      rfl
    · have n0 : i ≠ mN μ := by omega
      have n1 : i ≠ mN μ + 1 := by omega
      have n2 : i ≠ mN μ + 1 + 1 := by omega
      refine ⟨?_, ?_, ?_, ?_, ?_⟩
      · show va_up (va_up (va_up (mI μ) (mN μ) _) (mN μ + 1) _) (mN μ + 1 + 1) _ i = _
        rw [q_vup n2, q_vup n1, q_vup n0]
      · show p_up (p_up (va_up (va_up (va_up (mR μ) (mN μ) _) (mN μ + 1) _) (mN μ + 1 + 1) _) (mN μ) 0 _) (mN μ) 1 _ i = _
        rw [q_up_ne n0, q_up_ne n0, q_vup n2, q_vup n1, q_vup n0]
      · show va_up (va_up (va_up (mJ μ) (mN μ) _) (mN μ + 1) _) (mN μ + 1 + 1) _ i = _
        rw [q_vup n2, q_vup n1, q_vup n0]
      · show va_up (va_up (va_up (mK μ) (mN μ) _) (mN μ + 1) _) (mN μ + 1 + 1) _ i = _
        rw [q_vup n2, q_vup n1, q_vup n0]
      · show va_up (va_up (va_up (mL μ) (mN μ) _) (mN μ + 1) _) (mN μ + 1 + 1) _ i = _
        rw [q_vup n2, q_vup n1, q_vup n0]
    · have a01 : mN μ ≠ mN μ + 1 := by omega
      have a02 : mN μ ≠ mN μ + 1 + 1 := by omega
      have a12 : mN μ + 1 ≠ mN μ + 1 + 1 := by omega
      match j, hj with
      | 0, hj =>
        cases hj
        have hk : mK (p_mna μ) (mN μ + 0) = 26 := by
          show va_up (va_up (va_up (mK μ) (mN μ) 26) (mN μ + 1) 20) (mN μ + 1 + 1) 20 (mN μ) = 26
          rw [q_vup a02, q_vup a01, q_veq]
        refine ⟨by rw [hk]; decide, by rw [hk]; exact hK.2 0 _ rfl, ?_, by rw [hk]; decide, fun j => ?_⟩
        · show 2 = va_up (va_up (va_up (mL μ) (mN μ) 2) (mN μ + 1) 96) (mN μ + 1 + 1) 96 (mN μ)
          rw [q_vup a02, q_vup a01, q_veq]
        · have hR : mR (p_mna μ) (mN μ + 0) j = if j = 1 then some (mN μ + 2) else if j = 0 then some (mN μ + 1) else none := by
            show p_up (p_up (va_up (va_up (va_up (mR μ) (mN μ) (fun _ => none)) (mN μ + 1) (fun _ => none)) (mN μ + 1 + 1) (fun _ => none)) (mN μ) 0 (some (mN μ + 1))) (mN μ) 1 (some (mN μ + 2)) (mN μ) j = _
            rw [q_up_eq, q_up_eq, q_vup a02, q_vup a01, q_veq]
            rfl
          rw [hR]
          have ga : ∀ k, k < 2 → q_a xa (ad ++ [q, rr 0, rr 1]) (mN μ + 1 + k) = some (rr k) := by
            intro k hk
            unfold q_a
            rw [if_pos (by omega), List.getElem?_append_right (by rw [w.2.2.2.1]; omega), w.2.2.2.1, show mN μ + 1 + k - mN μ = k + 1 by omega]
            have : k = 0 ∨ k = 1 := by omega
            rcases this with h | h <;> subst h <;> rfl
          by_cases j1 : j = 1
          · subst j1
            exact ⟨rr 1, ga 1 (by decide), rfl⟩
          · rw [if_neg j1]
            by_cases j0 : j = 0
            · subst j0
              exact ⟨rr 0, ga 0 (by decide), rfl⟩
            · rw [if_neg j0]
              show (if j < 2 then some (rr j) else none) = none
              rw [if_neg (by omega)]
      | 1, hj =>
        cases hj
        have hk : mK (p_mna μ) (mN μ + 1) = 20 := by
          show va_up (va_up (va_up (mK μ) (mN μ) 26) (mN μ + 1) 20) (mN μ + 1 + 1) 20 (mN μ + 1) = 20
          rw [q_vup a12, q_veq]
        refine ⟨by rw [hk]; decide, by rw [hk]; exact hy2, ?_, Or.inl hk, ?_⟩
        · show 96 = va_up (va_up (va_up (mL μ) (mN μ) 2) (mN μ + 1) 96) (mN μ + 1 + 1) 96 (mN μ + 1)
          rw [q_vup a12, q_veq]
        · show (fun _ => (0 : Int32)) = va_up (va_up (va_up (mI μ) (mN μ) _) (mN μ + 1) _) (mN μ + 1 + 1) _ (mN μ + 1)
          rw [q_vup a12, q_veq]
      | 2, hj =>
        cases hj
        have hk : mK (p_mna μ) (mN μ + 2) = 20 := by
          show va_up (va_up (va_up (mK μ) (mN μ) 26) (mN μ + 1) 20) (mN μ + 1 + 1) 20 (mN μ + 1 + 1) = 20
          rw [q_veq]
        refine ⟨by rw [hk]; decide, by rw [hk]; exact hy2, ?_, Or.inl hk, ?_⟩
        · show 96 = va_up (va_up (va_up (mL μ) (mN μ) 2) (mN μ + 1) 96) (mN μ + 1 + 1) 96 (mN μ + 1 + 1)
          rw [q_veq]
        · show (fun _ => (0 : Int32)) = va_up (va_up (va_up (mI μ) (mN μ) _) (mN μ + 1) _) (mN μ + 1 + 1) _ (mN μ + 1 + 1)
          rw [q_veq]
      | n + 3, hj => simp at hj
theorem q_p_cast {k a : Nat} {r : List Value} (hz : (q_o M = 2 ∧ k = 16 ∧ mK μ a = 20 ∧ a < mN μ) ∨ (q_lC (q_o M) k = some 5 ∧ mK μ a = 5 ∧ a < mN μ)) (hd : decode (q_cc M) pc = .ok (.checkcast k, 3)) (C : q_Ctx p s m args meth c M D A) (P : q_Pt s A D xa nL ad0 H locs ad μ lo (.ref a :: r) ls sa)
    (K : q_Nx p l e R s m args below meth c Q D A xa nL c0 s0 ad0 (pc + 3, lo, .ref a :: r, μ)) : W p l e R s m args below meth c H locs (mC μ - c0) (mS μ - s0) Q (F0 m pc ls sa) := by
  obtain ⟨v2, r2, e2, ⟨b, h2, h2'⟩, h3⟩ := P.2.2.2.1
  subst e2 h2'
  obtain ⟨ws, w⟩ := P.1
  have K' := q_stk (pc' := pc + 3) (st' := .ref a :: r) P ⟨_, _, rfl, ⟨b, h2, rfl⟩, h3⟩ K
  have hown := C.2.2.2.2.2.1
  rcases hz with ⟨z1, z2, z3, z4⟩ | ⟨z1, z2, z3⟩
  · subst z2
    obtain ⟨e, he, hc⟩ := q_Ws_at w z4 h2
    obtain ⟨cA, e1, -, e3⟩ := q_cI hc (Or.inl z3)
    subst e1
    rw [z3] at e3
    rw [z1] at hown
    exact va_castA C.1 C.2.1 hown (C.2.2.2.2.2.2.1 _ (q_tbl_in kI5 rfl)) w.1 a he e3 hd K'
  · obtain ⟨e, he, hc⟩ := q_Ws_at w z3 h2
    obtain ⟨fs, e1, -⟩ := q_cO hc z2 (by decide)
    subst e1
    have n3 := (kN 5 (by decide)).2.2
    have hKc := (C.2.2.2.2.2.2.2.2.2.1).1 5 _ n3
    exact va_castS C.1 C.2.1 hown (C.2.2.2.2.2.2.1 _ (q_tbl_in (kC _ _ _ z1).1 rfl)) hKc.2 (va_recv C.2.2.2.2.2.2.2.2.2.1 w.1 n3 he) hd K'
set_option maxHeartbeats 4000000 in
theorem q_pool {i : Instr} {len : Nat} {q : p_S} (hx : p_pool M i len pc lo st μ = some q) (hd : decode (q_cc M) pc = .ok (i, len)) (hRm : q_Rm R c0 s0 μ q.2.2.2) (C : q_Ctx p s m args meth c M D A) (G : q_G X xa A s) (P : q_Pt s A D xa nL ad0 H locs ad μ lo st ls sa) (K : q_Nx p l e R s m args below meth c Q D A xa nL c0 s0 ad0 q) : W p l e R s m args below meth c H locs (mC μ - c0) (mS μ - s0) Q (F0 m pc ls sa) := by
  have hX := C.1
  have hb := C.2.1
  have hown := C.2.2.2.2.2.1
  unfold p_pool at hx
  split at hx
  · split at hx
    · rename_i hlen; subst hlen
      split at hx
      · rename_i v hv
        cases hx
        exact lv_ldc hX hb hown (C.2.2.2.2.2.2.1 _ (q_tbl_in (kK _ _ _ hv) rfl)) hd (q_push (v := .int _) P rfl K)
      · split at hx
        · rename_i v hv
          cases hx
          exact va_ldcS hX hb hown (G.2.2.2.1 _ _ _ hv) hd (q_push (v := .ref _) P ⟨_, q_aStr _, rfl⟩ K)
        · cases hx
    · cases hx
  · split at hx
    · rename_i hlen; subst hlen
      split at hx
      · rename_i v hv
        cases hx
        exact lv_ldcw hX hb hown (C.2.2.2.2.2.2.1 _ (q_tbl_in (kK _ _ _ hv) rfl)) hd (q_push (v := .int _) P rfl K)
      · split at hx
        · rename_i v hv
          cases hx
          exact q_ldcSW hX hb hown (G.2.2.2.1 _ _ _ hv) hd (q_push (v := .ref _) P ⟨_, q_aStr _, rfl⟩ K)
        · cases hx
    · cases hx
  · split at hx
    · rename_i hlen; subst hlen
      split at hx
      · rename_i v hv
        cases hx
        exact lv_ldc2 hX hb hown (C.2.2.2.2.2.2.1 _ (q_tbl_in (kKL _ _ _ hv) rfl)) hd (q_push (v := .long _) P rfl K)
      · cases hx
    · cases hx
  · rename_i k
    split at hx
    · rename_i hlen; subst hlen
      split at hx
      · rename_i v hv
        cases hx
        have hcase : (q_o M = 2 ∧ k = 9 ∧ v = 1) ∨ (q_o M = 10 ∧ k = 73 ∧ v = 2) := by
          unfold q_lS at hv
          split at hv
          · rename_i g1; cases hv; exact Or.inl ⟨g1, rfl, rfl⟩
          · rename_i g1; cases hv; exact Or.inr ⟨g1, rfl, rfl⟩
          · cases hv
        rcases hcase with ⟨g1, g2, g3⟩ | ⟨g1, g2, g3⟩
        · subst g2 g3
          rw [g1] at hown
          exact va_gets hX hb G.2.2.1.1 P.2.1 hown (C.2.2.2.2.2.2.1 _ (q_tbl_in kI6 rfl)) (fun _ h => h) hd (q_push (v := .ref _) P ⟨_, q_aE, rfl⟩ K)
        · subst g2 g3
          rw [g1] at hown
          exact va_gets hX hb G.2.2.1.2 P.2.1 hown (C.2.2.2.2.2.2.1 _ (q_tbl_in kI7 rfl)) (fun _ h => h) hd (q_push (v := .ref _) P ⟨_, q_aE, rfl⟩ K)
      · cases hx
    · cases hx
  · split at hx
    · rename_i hlen; subst hlen
      split at hx
      · rename_i v hv
        cases hx
        exact q_p_new hv hd hRm C P K
      · cases hx
    · cases hx
  · rename_i t
    split at hx
    · rename_i hlen; subst hlen
      split at hx
      · rename_i n r
        split at hx
        · cases hx
        · rename_i hn
          split at hx
          · cases hx
            exact q_p_newarray (t := .int) (ty := .int) (kd := 20) (a0 := (n.toNatClampNeg, .inl (fun _ => 0))) rfl rfl (Or.inl rfl) kI1 hn (by decide) (fun _ => rfl) rfl (fun b => ⟨Or.inl q_veq, (q_veq (f := mI μ)).symm⟩) hd hRm C P K
          · cases hx
            exact q_p_newarray (t := .byte) (ty := .byte) (kd := 21) (a0 := (n.toNatClampNeg, .inl (fun _ => 0))) rfl rfl (Or.inr (Or.inl rfl)) kI2 hn (by decide) (fun _ => rfl) rfl (fun b => ⟨Or.inr q_veq, (q_veq (f := mI μ)).symm⟩) hd hRm C P K
          · cases hx
            exact q_p_newarray (t := .long) (ty := .long) (kd := 22) (a0 := (n.toNatClampNeg, .inr (.inl (fun _ => 0)))) rfl rfl (Or.inr (Or.inr rfl)) kI3 hn (by decide) (fun _ => rfl) rfl (fun b => ⟨q_veq, (q_veq (f := mJ μ)).symm⟩) hd hRm C P K
          · cases hx
      · cases hx
    · cases hx
  · split at hx
    · rename_i hlen; subst hlen
      split at hx
      · rename_i n r
        split at hx
        · cases hx
        · rename_i hn
          split at hx
          · rename_i hl
            cases hx
            exact q_p_anew hl (Or.inl ⟨rfl, rfl⟩) hn hd hRm C G P K
          · rename_i hl
            cases hx
            exact q_p_anew hl (Or.inr ⟨rfl, rfl⟩) hn hd hRm C G P K
          · cases hx
      · cases hx
    · cases hx
  · split at hx
    · rename_i hlen
      obtain ⟨g1, g2, g3, g4⟩ := hlen
      subst g1 g2 g4
      split at hx
      · cases hx
        exact q_p_mna g3 hd hRm C G P K
      · cases hx
    · cases hx
  · split at hx
    · rename_i hlen; subst hlen
      split at hx
      · split at hx
        · rename_i hz
          cases hx
          exact q_p_cast hz hd C P K
        · cases hx
      · cases hx
    · cases hx
  · cases hx
end QP2
