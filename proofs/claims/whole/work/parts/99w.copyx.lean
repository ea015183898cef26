/-! System.arraycopy out of an outer int array -/
section QPX
variable {p : Program} {l : Launch} {e : Env} {R : Room} {s : State} {m : MethodId} {args : Array Value} {below : List Frame} {meth : Method} {c : Code} {H : Heap} {locs : List Loc} {Q : State → Prop} {cells slots : Nat}
variable {D : va_G} {A : Nat → Prop} {ls : Array Slot} {rest : List Value} {pc : Nat} {cl : List (String × (Nat → String × String × String × Bool) × Nat)} {tys : List (ClassId × FieldType)} {ws : va_W}
theorem i_clampT {z : Int32} (h : ¬ z < 0) : z.toInt = (z.toNatClampNeg : Int) := by
  have h0 : (0 : Int) ≤ z.toInt := by
    have := Int32.not_lt.mp h
    simpa using Int32.le_iff_toInt_le.mp this
  show z.toInt = ((z.toInt.toNat : Nat) : Int)
  omega
theorem q_cpX {cc : ByteArray} (hexec : p.tables.exec = Jvm.exec) (hb : c.code = cc) (hml : c.maxLocals = ls.size) {own : String} {index : Nat} (hown : s.vm.findClass own = some m.cls) (hlink : (Cond.methodLink own index arraycopyName).before args s = true) (hnat : (Cond.native arraycopyName).before args s = true) (hstat : (Cond.static arraycopyName).before args s = true) (hini : (Cond.initialized "java/lang/System").before args s = true)
    (hK : va_K D vwCl tys s) (hP : va_P D vwCl ws H) (hD : va_D A ws) (hS : va_S A s.heap H locs) {b0 n0 : Nat} {f : Nat → Int32} (hX : q_xr A s b0 n0 f) (q1 t1 : Nat) {a : Nat} {c1 : ClassId} {n1 : Nat} {g : Nat → Int32} (ha1 : ws[q1]? = some (a, .inl (c1, n1, .inl g))) (ht1 : tys[t1]? = some (c1, .int))
    {sp dp n : Int32} (h1 : ¬ sp < 0) (h2 : ¬ dp < 0) (h3 : ¬ n < 0) (h4 : sp.toNatClampNeg + n.toNatClampNeg ≤ n0) (h5 : dp.toNatClampNeg + n.toNatClampNeg ≤ n1)
    (hframes : 1 ≤ R.frames) (hlocals : (rest.map fun v => v.category).sum + (nativeFrameWords "java/lang/System" "arraycopy" 5 + 11) ≤ R.locals) (hdg : decode cc pc = .ok (.invokestatic index, 3))
    (kk : ∀ (H1 : Heap) (locs1 : List Loc), va_P D vwCl (ws.set q1 (a, .inl (c1, n1, .inl (va_cpy f g sp.toNatClampNeg dp.toNatClampNeg n.toNatClampNeg)))) H1 → va_D A (ws.set q1 (a, .inl (c1, n1, .inl (va_cpy f g sp.toNatClampNeg dp.toNatClampNeg n.toNatClampNeg)))) → va_S A s.heap H1 locs1 → W p l e R s m args below meth c H1 locs1 cells slots Q (F0 m (pc + 3) ls rest)) : W p l e R s m args below meth c H locs cells slots Q (F0 m pc ls (.int n :: .int dp :: .ref a :: .int sp :: .ref b0 :: rest)) := by
  intro T hT X
  obtain ⟨scr, k1, k2, k3, k4, -, k5, k6⟩ := hX
  have m0 : H[b0]? = some scr := by rw [hS.2.1 b0 (Array.getElem?_eq_some_iff.mp k1).1 k6]; exact k1
  have m1 : H[a]? = some (vp_cell c1 (n1, .inl g)) := hP q1 _ ha1
  obtain ⟨u0, w0, x0, y0, z0⟩ := k2
  obtain ⟨-, w1, x1, y1, z1⟩ := (hK.2 t1 _ ht1).1 n1 (fun j => .int (g j))
  obtain ⟨vm', X', step⟩ := X.arraycopy hexec hown hlink hnat hstat hini (src := b0) (dst := a) (cs := scr) (cd := vp_cell c1 (n1, .inl g)) (srcPos := sp) (destPos := dp) (n := n) (by rw [hT]; exact m0) (by rw [hT]; exact m1)
    u0 (fun _ h => by cases h) k3 (fun h => by cases h) x0 x1 z0 z1 (by simp [refKind]) h1 h2 h3
    (by rw [i_clampT h1, i_clampT h3]; omega)
    (by rw [i_clampT h2, i_clampT h3]; show ¬ _ > ((arrV c1 n1 (fun j => .int (g j))).slots.size : Int); rw [arrV_size]; omega)
    (fun vm₁ _ i hi => by
      have e : scr.slots.getD (sp.toNatClampNeg + i) .null = .int (f (sp.toNatClampNeg + i)) := by
        rw [Array.getD_eq_getD_getElem?, k5 _ (by omega)]
        rfl
      rw [e]
      exact ⟨rfl, trivial⟩)
    (g := F0 m pc ls (.int n :: .int dp :: .ref a :: .int sp :: .ref b0 :: rest)) rfl (by rw [hml]) (rest := rest) rfl (by rw [hb]; exact hdg) hframes (by show 2 * 0 + _ + _ ≤ _; omega)
  have e1 : copied scr (vp_cell c1 (n1, .inl g)) sp dp n = vp_cell c1 (n1, .inl (va_cpy f g sp.toNatClampNeg dp.toNatClampNeg n.toNatClampNeg)) := va_copiedX (fun z => .int z) scr c1 f g k5 h4
  rw [e1] at X' step
  have hl : a < H.size := (Array.getElem?_eq_some_iff.mp m1).1
  have oq : ∀ q : Nat, q ≠ a → (H.setIfInBounds a (vp_cell c1 (n1, .inl (va_cpy f g sp.toNatClampNeg dp.toNatClampNeg n.toNatClampNeg))))[q]? = H[q]? := fun q hq => by simp [Array.getElem?_setIfInBounds, Ne.symm hq]
  have hh : ((T.setVm vm').setCell a (vp_cell c1 (n1, .inl (va_cpy f g sp.toNatClampNeg dp.toNatClampNeg n.toNatClampNeg)))).heap = H.setIfInBounds a (vp_cell c1 (n1, .inl (va_cpy f g sp.toNatClampNeg dp.toNatClampNeg n.toNatClampNeg))) := by rw [← hT]; rfl
  obtain ⟨t, a1, b1⟩ := kk _ _ (hP.set hD ha1 (show (H.setIfInBounds a _)[a]? = some _ by simp [Array.getElem?_setIfInBounds, hl]) oq) (hD.set ha1) ⟨by simp; exact hS.1, fun q g1 g2 => by
      rw [oq q (fun e => g2 (by rw [e]; exact hD.2 q1 _ ha1))]
      exact hS.2.1 q g1 g2, fun q hq => by
      rcases List.mem_append.mp hq with h | h
      · exact hS.2.2 q h
      · obtain ⟨z, -, hz⟩ := List.mem_map.mp h
        rw [← hz]
        exact hD.2 q1 _ ha1⟩ _ hh X'
  exact ⟨t, step t a1, b1⟩
end QPX
section QPY
variable {p : Program} {l : Launch} {e : Env} {R : Room} {s : State} {m : MethodId} {args : Array Value} {below : List Frame} {meth : Method} {c : Code} {H : Heap} {locs : List Loc} {Q : State → Prop}
variable {X : p_X} {M : q_M} {D : va_G} {A : Nat → Prop} {xa : Nat → Nat} {c0 s0 : Nat} {ad0 ad : List Nat} {μ μ1 : p_M} {lo st : List Value} {ls : Array Slot} {sa as rest : List Value} {pc kx : Nat} {v : Option Value}
theorem q_pr4X (hl : q_lP (q_o M) kx = some 4) (hp : p_pop 5 st = some (as, rest)) (hx : p_prim X 4 as μ = some (v, μ1)) (hd : decode (q_cc M) pc = .ok (.invokestatic kx, 3)) (hdR : q_dR 0 R) (C : q_Ctx p s m args meth c M D A) (G : q_G X xa A s) (P : q_Pt s A D xa (q_ml M) ad0 H locs ad μ lo st ls sa)
    (K : q_Nx p l e R s m args below meth c Q D A xa (q_ml M) c0 s0 ad0 (pc + 3, lo, v.toList ++ rest, μ1)) : W p l e R s m args below meth c H locs (mC μ - c0) (mS μ - s0) Q (F0 m pc ls sa) := by
  refine q_pr4 hl hp hx hd hdR C G P (fun a t b u n hE has => ?_) K
  subst has
  obtain ⟨aA, rA, g1, g2, g3, g4, g5, g6⟩ := q_pop hp P.2.2.2.1
  obtain ⟨a', t', b', u', n', hq, ⟨z1, z2, z3, z4, z5, z6⟩, rfl, hh⟩ := pr4_in g4 hx
  cases hq
  rcases hh with ⟨-, y2, y3, rfl⟩ | ⟨y1, y2, y3, y4, y5⟩
  · obtain ⟨v1, r1, e1, ⟨ba, h1, h1'⟩, v2, r2, e2, h2, v3, r3, e3, ⟨bb, h3, h3'⟩, v4, r4, e4, h4, v5, r5, e5, h5, h6⟩ := g2
    have h2 : v2 = .int t := h2
    have h4 : v4 = .int u := h4
    have h5 : v5 = .int n := h5
    have h6 : r5 = [] := h6
    subst e1 h1' e2 h2 e3 h3' e4 h4 e5 h5 h6 g1
    have hba : ba = xa (a - p_E) := by
      unfold q_a at h1
      rw [if_neg (by omega)] at h1
      exact (Option.some.inj h1).symm
    subst hba
    have hw : ∀ w, w ∈ lw_tbl → goodWord w = true → w.before args s = true := fun w h1 h2 => C.2.2.2.2.2.2.1 _ (q_tbl_in h1 h2)
    obtain ⟨ws, w⟩ := P.1
    obtain ⟨eb, heb, hcb⟩ := q_Ws_at w z5 h3
    obtain ⟨cB, j1, j2⟩ := q_cI hcb (by omega)
    subst j1
    rw [z4] at j2
    refine q_cpX C.1 C.2.1 (by rw [C.2.2.1]; exact (q_size P).symm) C.2.2.2.2.2.1 (hw _ (kP _ _ _ hl) rfl) (hw _ kAc1 rfl) (hw _ kAc2 rfl) (hw _ kAc3 rfl) (q_K1 C.2.2.2.2.2.2.2.2.2.1 j2) w.1 w.2.1 P.2.1 (G.2.1 (a - p_E) y2) b 0 heb rfl z1 z2 z3 y3 z6 (by have := hdR.1; omega) (by show (rA.map fun v => v.category).sum + (nativeFrameWords "java/lang/System" "arraycopy" 5 + 11) ≤ R.locals; have := hdR.2; have := kAc4; omega) hd (fun H1 locs1 hP hD hS => ?_)
    refine K H1 locs1 ad ls rA ⟨q_Ws_set (μ' := sA μ b (va_cpy (X (a - p_E)).2 (mI μ b) t.toNatClampNeg u.toNatClampNeg n.toNatClampNeg)) w heb hP hD rfl rfl (fun j hj => ⟨?_, rfl, rfl, rfl, rfl⟩) ?_, hS, P.2.2.1, g3, P.2.2.2.2⟩
    · show va_up μ.1 b _ j = μ.1 j
      unfold va_up
      rw [if_neg hj]
    · refine ⟨by show 20 ≤ mK μ b ∧ mK μ b ≤ 26; omega, by show ArrOfT s cB (q_ty (mK μ b)) ∧ va_RA s cB (q_ty (mK μ b)); rw [z4]; exact j2, rfl, ?_⟩
      refine ⟨Or.inl z4, ?_⟩
      show _ = va_up μ.1 b _ b
      unfold va_up
      rw [if_pos rfl]
  · exact absurd hE (Nat.not_le_of_lt y1)
end QPY
