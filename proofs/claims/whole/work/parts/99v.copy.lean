/-! System.arraycopy of our own int arrays -/
theorem pr4_in {X : p_X} {as : List Value} {μ μ1 : p_M} {v : Option Value} (hl : as.length = 5) (h : p_prim X 4 as μ = some (v, μ1)) : ∃ a s b t n, as = [.ref a, .int s, .ref b, .int t, .int n] ∧ (¬ s < 0 ∧ ¬ t < 0 ∧ ¬ n < 0 ∧ mK μ b = 20 ∧ b < mN μ ∧ t.toNatClampNeg + n.toNatClampNeg ≤ mL μ b) ∧ v = none ∧ ((p_E ≤ a ∧ a - p_E < 3 ∧ s.toNatClampNeg + n.toNatClampNeg ≤ (X (a - p_E)).1 ∧ μ1 = sA μ b (va_cpy (X (a - p_E)).2 (mI μ b) s.toNatClampNeg t.toNatClampNeg n.toNatClampNeg)) ∨ (a < p_E ∧ mK μ a = 20 ∧ a < mN μ ∧ s.toNatClampNeg + n.toNatClampNeg ≤ mL μ a ∧ μ1 = sA μ b (va_cpy (mI μ a) (mI μ b) s.toNatClampNeg t.toNatClampNeg n.toNatClampNeg))) := by
  match as, hl with
  | [x1, x2, x3, x4, x5], _ =>
    cases x1 with
    | ref a =>
      cases x2 with
      | int s =>
        cases x3 with
        | ref b =>
          cases x4 with
          | int t =>
            cases x5 with
            | int n =>
              refine ⟨a, s, b, t, n, rfl, ?_⟩
              rw [show p_prim X 4 [.ref a, .int s, .ref b, .int t, .int n] μ = (if s < 0 ∨ t < 0 ∨ n < 0 ∨ ¬ mK μ b = 20 ∨ mN μ ≤ b ∨ mL μ b < t.toNatClampNeg + n.toNatClampNeg then none else if p_E ≤ a then (if a - p_E < 3 ∧ s.toNatClampNeg + n.toNatClampNeg ≤ (X (a - p_E)).1 then some (none, sA μ b (va_cpy (X (a - p_E)).2 (mI μ b) s.toNatClampNeg t.toNatClampNeg n.toNatClampNeg)) else none) else if mK μ a = 20 ∧ a < mN μ ∧ s.toNatClampNeg + n.toNatClampNeg ≤ mL μ a then some (none, sA μ b (va_cpy (mI μ a) (mI μ b) s.toNatClampNeg t.toNatClampNeg n.toNatClampNeg)) else none) from rfl] at h
              split at h
              · cases h
              · rename_i c1
                have c2 : ¬ s < 0 ∧ ¬ t < 0 ∧ ¬ n < 0 ∧ mK μ b = 20 ∧ b < mN μ ∧ t.toNatClampNeg + n.toNatClampNeg ≤ mL μ b := by
                  refine ⟨fun z => c1 (Or.inl z), fun z => c1 (Or.inr (Or.inl z)), fun z => c1 (Or.inr (Or.inr (Or.inl z))), ?_, ?_, ?_⟩
                  · exact Classical.byContradiction fun z => c1 (Or.inr (Or.inr (Or.inr (Or.inl z))))
                  · exact Nat.lt_of_not_le fun z => c1 (Or.inr (Or.inr (Or.inr (Or.inr (Or.inl z)))))
                  · exact Nat.le_of_not_lt fun z => c1 (Or.inr (Or.inr (Or.inr (Or.inr (Or.inr z)))))
                split at h
                · rename_i c3
                  split at h
                  · rename_i c4
                    cases h
                    exact ⟨c2, rfl, Or.inl ⟨c3, c4.1, c4.2, rfl⟩⟩
                  · cases h
                · rename_i c3
                  split at h
                  · rename_i c4
                    cases h
                    exact ⟨c2, rfl, Or.inr ⟨Nat.lt_of_not_le c3, c4.1, c4.2.1, c4.2.2, rfl⟩⟩
                  · cases h
            | _ => exact (pn h rfl).elim
          | _ => exact (pn h rfl).elim
        | _ => exact (pn h rfl).elim
      | _ => exact (pn h rfl).elim
    | _ => exact (pn h rfl).elim
theorem q_K2 {D : va_G} {s : State} {cA cB : ClassId} {ty : FieldType} (hK : va_K D vwCl [] s) (h : ArrOfT s cA ty ∧ va_RA s cA ty) (g : ArrOfT s cB ty ∧ va_RA s cB ty) : va_K D vwCl [(cA, ty), (cB, ty)] s := ⟨hK.1, fun k q hk => by
  match k, hk with
  | 0, hk => cases hk; exact h
  | 1, hk => cases hk; exact g
  | k + 2, hk => simp at hk⟩
section QPC
variable {p : Program} {l : Launch} {e : Env} {R : Room} {s : State} {m : MethodId} {args : Array Value} {below : List Frame} {meth : Method} {c : Code} {H : Heap} {locs : List Loc} {Q : State → Prop}
variable {X : p_X} {M : q_M} {D : va_G} {A : Nat → Prop} {xa : Nat → Nat} {c0 s0 : Nat} {ad0 ad : List Nat} {μ μ1 : p_M} {lo st : List Value} {ls : Array Slot} {sa as rest : List Value} {pc kx : Nat} {v : Option Value}
theorem q_pr4 (hl : q_lP (q_o M) kx = some 4) (hp : p_pop 5 st = some (as, rest)) (hx : p_prim X 4 as μ = some (v, μ1)) (hd : decode (q_cc M) pc = .ok (.invokestatic kx, 3)) (hdR : q_dR 0 R) (C : q_Ctx p s m args meth c M D A) (G : q_G X xa A s) (P : q_Pt s A D xa (q_ml M) ad0 H locs ad μ lo st ls sa)
    (out : ∀ a t b u n, p_E ≤ a → as = [.ref a, .int t, .ref b, .int u, .int n] → W p l e R s m args below meth c H locs (mC μ - c0) (mS μ - s0) Q (F0 m pc ls sa))
    (K : q_Nx p l e R s m args below meth c Q D A xa (q_ml M) c0 s0 ad0 (pc + 3, lo, v.toList ++ rest, μ1)) : W p l e R s m args below meth c H locs (mC μ - c0) (mS μ - s0) Q (F0 m pc ls sa) := by
  obtain ⟨aA, rA, g1, g2, g3, g4, g5, g6⟩ := q_pop hp P.2.2.2.1
  obtain ⟨a, t, b, u, n, rfl, ⟨z1, z2, z3, z4, z5, z6⟩, rfl, hh⟩ := pr4_in g4 hx
  rcases hh with ⟨y1, -⟩ | ⟨y1, y2, y3, y4, rfl⟩
  · exact out a t b u n y1 rfl
  · obtain ⟨v1, r1, e1, ⟨ba, h1, h1'⟩, v2, r2, e2, h2, v3, r3, e3, ⟨bb, h3, h3'⟩, v4, r4, e4, h4, v5, r5, e5, h5, h6⟩ := g2
    have h2 : v2 = .int t := h2
    have h4 : v4 = .int u := h4
    have h5 : v5 = .int n := h5
    have h6 : r5 = [] := h6
    subst e1 h1' e2 h2 e3 h3' e4 h4 e5 h5 h6 g1
    have hw : ∀ w, w ∈ lw_tbl → goodWord w = true → w.before args s = true := fun w h1 h2 => C.2.2.2.2.2.2.1 _ (q_tbl_in h1 h2)
    obtain ⟨ws, w⟩ := P.1
    obtain ⟨ea, hea, hca⟩ := q_Ws_at w y3 h1
    obtain ⟨eb, heb, hcb⟩ := q_Ws_at w z5 h3
    obtain ⟨cA, i1, i2⟩ := q_cI hca (by omega)
    obtain ⟨cB, j1, j2⟩ := q_cI hcb (by omega)
    subst i1 j1
    rw [y2] at i2
    rw [z4] at j2
    refine va_copyi (ty := .int) C.1 C.2.1 (by rw [C.2.2.1]; exact (q_size P).symm) C.2.2.2.2.2.1 (hw _ (kP _ _ _ hl) rfl) (hw _ kAc1 rfl) (hw _ kAc2 rfl) (hw _ kAc3 rfl) (q_K2 C.2.2.2.2.2.2.2.2.2.1 i2 j2) w.1 w.2.1 P.2.1 a b 0 1 hea heb rfl rfl rfl z1 z2 z3 y4 z6 (fun _ _ => rfl) (by have := hdR.1; omega) (by show (rA.map fun v => v.category).sum + (nativeFrameWords "java/lang/System" "arraycopy" 5 + 11) ≤ R.locals; have := hdR.2; have := kAc4; omega) hd (fun H1 locs1 hP hD hS => ?_)
    refine K H1 locs1 ad ls rA ⟨q_Ws_set (μ' := sA μ b (va_cpy (mI μ a) (mI μ b) t.toNatClampNeg u.toNatClampNeg n.toNatClampNeg)) w heb hP hD rfl rfl (fun j hj => ⟨?_, rfl, rfl, rfl, rfl⟩) ?_, hS, P.2.2.1, g3, P.2.2.2.2⟩
    · show va_up μ.1 b _ j = μ.1 j
      unfold va_up
      rw [if_neg hj]
    · refine ⟨by show 20 ≤ mK μ b ∧ mK μ b ≤ 26; omega, by show ArrOfT s cB (q_ty (mK μ b)) ∧ va_RA s cB (q_ty (mK μ b)); rw [z4]; exact j2, rfl, ?_⟩
      refine ⟨Or.inl z4, ?_⟩
      show _ = va_up μ.1 b _ b
      unfold va_up
      rw [if_pos rfl]
end QPC
