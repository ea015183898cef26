/-! rows of the pure machine for any object -/
def p_let {α β : Type} (x : α) (k : α → Option β) : Option β := k x
theorem p_lt {α β : Type} {x : α} {k : α → Option β} {r : β} (h : p_let x k = some r) : k x = some r := h
/-- what a method that may throw leaves -/
def tI (r : Nat × Int32 × p_M) : p_R := ((r.1, if r.1 = 0 then some (.int r.2.1) else none), r.2.2)
def tV (r : Nat × Int32 × p_M) : p_R := ((r.1, none), r.2.2)
def tA (r : Nat × Nat × p_M) : p_R := ((r.1, if r.1 = 0 then some (.ref r.2.1) else none), r.2.2)
/-- ArrayList.add -/
def al_add (a v : Nat) (μ : p_M) : Option p_M := if a < mN μ ∧ mK μ a = 0 ∧ v < mN μ ∧ mK μ v = 5 ∧ ¬ mI μ a 2 < 0 ∧ mI μ a 2 < 1000 then (match mR μ a 1 with
  | some b => if b = p_E + 3 ∧ mI μ a 2 = 0 then some (sI (sI (sR (sR (sN μ 25 10 10) (mN μ) 0 (some v)) a 1 (some (mN μ))) a 0 (mI μ a 0 + 1)) a 2 1)
    else if b < mN μ ∧ mK μ b = 25 ∧ (mI μ a 2).toNatClampNeg < mL μ b then some (sI (sI (sR μ b (mI μ a 2).toNatClampNeg (some v)) a 0 (mI μ a 0 + 1)) a 2 (mI μ a 2 + 1))
    else if b < mN μ ∧ mK μ b = 25 ∧ (mI μ a 2).toNatClampNeg = mL μ b ∧ 2 ≤ mL μ b ∧ mL μ b ≤ 1000 then
      some (sI (sI (sR (sR ((mI (sN μ 25 (mL μ b + mL μ b / 2) (mL μ b + mL μ b / 2)), va_up (mR (sN μ 25 (mL μ b + mL μ b / 2) (mL μ b + mL μ b / 2))) (mN μ) (fun j => if j < mL μ b then mR μ b j else none), (sN μ 25 (mL μ b + mL μ b / 2) (mL μ b + mL μ b / 2)).2.2)) (mN μ) (mL μ b) (some v)) a 1 (some (mN μ))) a 0 (mI μ a 0 + 1)) a 2 (mI μ a 2 + 1))
    else none
  | none => none) else none
section EY
variable {X : p_X} {d : Nat} {M : q_M} {pc : Nat} {lo st rest : List Value} {μ μ1 : p_M} {Q : p_R → Prop}
theorem e_putR {i a o' i' ci k w : Nat} {b : Bool} (hd : decode (q_cc M) pc = .ok (.putfield i, 3)) (hl : q_lF (q_o M) i = some (o', i', ci, k, b)) (hr : p_isR ci k = true ∧ p_may M ci k = true ∧ (b = true → (q_T ci k).2.2.2 = false)) (hk : mK μ a = ci ∧ a < mN μ) (K : p_Ev X d M (pc + 3) lo st (sR μ a k (some w)) Q) : p_Ev X d M pc lo (.ref w :: .ref a :: st) μ Q := by
  refine e_x hd (q := (pc + 3, lo, st, sR μ a k (some w))) ?_ K
  show p_putf M i pc lo (.ref w :: .ref a :: st) μ = _
  unfold p_putf
  simp only [hl]
  rw [if_pos ⟨hk.1, hk.2, hr.1, hr.2.1, hr.2.2⟩]
theorem e_iaG {a : Nat} {i : Int32} (hd : decode (q_cc M) pc = .ok (.iaload, 1)) (ha : a < p_E ∧ mK μ a = 20 ∧ a < mN μ) (hc : ¬ i < 0 ∧ i.toNatClampNeg < mL μ a) (K : p_Ev X d M (pc + 1) lo (.int (mI μ a i.toNatClampNeg) :: st) μ Q) : p_Ev X d M pc lo (.int i :: .ref a :: st) μ Q := e_iald hd ha.1 ha.2.1 rfl ha.2.2 hc K
theorem e_baG {a : Nat} {i : Int32} (hd : decode (q_cc M) pc = .ok (.baload, 1)) (ha : a < p_E ∧ mK μ a = 21 ∧ a < mN μ) (hc : ¬ i < 0 ∧ i.toNatClampNeg < mL μ a) (K : p_Ev X d M (pc + 1) lo (.int (mI μ a i.toNatClampNeg) :: st) μ Q) : p_Ev X d M pc lo (.int i :: .ref a :: st) μ Q := e_bald hd ha.1 ha.2.1 rfl ha.2.2 hc K
theorem e_iaS {a : Nat} {i x : Int32} (hd : decode (q_cc M) pc = .ok (.iastore, 1)) (ha : a < p_E ∧ mK μ a = 20 ∧ a < mN μ) (hc : ¬ i < 0 ∧ i.toNatClampNeg < mL μ a) (K : p_Ev X d M (pc + 1) lo st (sI μ a i.toNatClampNeg x) Q) : p_Ev X d M pc lo (.int x :: .int i :: .ref a :: st) μ Q := e_iast hd ha.2.1 rfl ha.2.2 hc K
theorem e_baS {a : Nat} {i x : Int32} (hd : decode (q_cc M) pc = .ok (.bastore, 1)) (ha : a < p_E ∧ mK μ a = 21 ∧ a < mN μ) (hc : ¬ i < 0 ∧ i.toNatClampNeg < mL μ a) (K : p_Ev X d M (pc + 1) lo st (sI μ a i.toNatClampNeg x.toInt8.toInt32) Q) : p_Ev X d M pc lo (.int x :: .int i :: .ref a :: st) μ Q := e_bast hd ha.2.1 rfl ha.2.2 hc K
theorem e_ialX {k : Nat} {i : Int32} (hd : decode (q_cc M) pc = .ok (.iaload, 1)) (hk : k < 3) (hc : ¬ i < 0 ∧ i.toNatClampNeg < (X k).1) (K : p_Ev X d M (pc + 1) lo (.int ((X k).2 i.toNatClampNeg) :: st) μ Q) : p_Ev X d M pc lo (.int i :: .ref (p_E + k) :: st) μ Q := by
  refine e_x hd (q := (pc + 1, lo, .int ((X k).2 i.toNatClampNeg) :: st, μ)) ?_ K
  show p_iald X 20 pc lo (.int i :: .ref (p_E + k) :: st) μ = _
  unfold p_iald
  dsimp only
  have e : p_E + k - p_E = k := Nat.add_sub_cancel_left ..
  rw [if_pos (Nat.le_add_right _ _), e, if_pos ⟨rfl, hc.1, hc.2, hk⟩]
theorem e_laG {a : Nat} {i : Int32} (hd : decode (q_cc M) pc = .ok (.laload, 1)) (hc : mK μ a = 22 ∧ ¬ i < 0 ∧ i.toNatClampNeg < mL μ a ∧ a < mN μ) (K : p_Ev X d M (pc + 1) lo (.long (mJ μ a i.toNatClampNeg) :: st) μ Q) : p_Ev X d M pc lo (.int i :: .ref a :: st) μ Q := by
  refine e_x hd (q := (pc + 1, lo, .long (mJ μ a i.toNatClampNeg) :: st, μ)) ?_ K
  show p_lald pc lo (.int i :: .ref a :: st) μ = _
  unfold p_lald
  dsimp only
  rw [if_pos hc]
theorem e_laS {a : Nat} {i : Int32} {x : Int64} (hd : decode (q_cc M) pc = .ok (.lastore, 1)) (hc : mK μ a = 22 ∧ ¬ i < 0 ∧ i.toNatClampNeg < mL μ a ∧ a < mN μ) (K : p_Ev X d M (pc + 1) lo st (sJ μ a i.toNatClampNeg x) Q) : p_Ev X d M pc lo (.long x :: .int i :: .ref a :: st) μ Q := by
  refine e_x hd (q := (pc + 1, lo, st, sJ μ a i.toNatClampNeg x)) ?_ K
  show p_last pc lo (.long x :: .int i :: .ref a :: st) μ = _
  unfold p_last
  dsimp only
  rw [if_pos hc]
theorem e_aald {a v : Nat} {i : Int32} (hd : decode (q_cc M) pc = .ok (.aaload, 1)) (hc : 23 ≤ mK μ a ∧ mK μ a ≤ 26 ∧ ¬ i < 0 ∧ i.toNatClampNeg < mL μ a ∧ a < mN μ) (hv : mR μ a i.toNatClampNeg = some v) (K : p_Ev X d M (pc + 1) lo (.ref v :: st) μ Q) : p_Ev X d M pc lo (.int i :: .ref a :: st) μ Q := by
  refine e_x hd (q := (pc + 1, lo, .ref v :: st, μ)) ?_ K
  show p_aald pc lo (.int i :: .ref a :: st) μ = _
  unfold p_aald
  dsimp only
  rw [if_pos hc, hv]
  rfl
theorem e_aast {a v : Nat} {i : Int32} (hd : decode (q_cc M) pc = .ok (.aastore, 1)) (hc : ((mK μ a = 23 ∧ mK μ v = 4) ∨ (mK μ a = 24 ∧ mK μ v = 6)) ∧ v < mN μ ∧ ¬ i < 0 ∧ i.toNatClampNeg < mL μ a ∧ a < mN μ) (K : p_Ev X d M (pc + 1) lo st (sR μ a i.toNatClampNeg (some v)) Q) : p_Ev X d M pc lo (.ref v :: .int i :: .ref a :: st) μ Q := by
  refine e_x hd (q := (pc + 1, lo, st, sR μ a i.toNatClampNeg (some v))) ?_ K
  show p_aast pc lo (.ref v :: .int i :: .ref a :: st) μ = _
  unfold p_aast
  dsimp only
  rw [if_pos hc]
theorem e_alen {a : Nat} (hd : decode (q_cc M) pc = .ok (.arraylength, 1)) (hc : a < p_E ∧ 20 ≤ mK μ a ∧ mK μ a ≤ 26 ∧ a < mN μ) (K : p_Ev X d M (pc + 1) lo (.int (nI (mL μ a)) :: st) μ Q) : p_Ev X d M pc lo (.ref a :: st) μ Q := by
  refine e_x hd (q := (pc + 1, lo, .int (nI (mL μ a)) :: st, μ)) ?_ K
  show p_alen X pc lo (.ref a :: st) μ = _
  unfold p_alen
  dsimp only
  rw [if_neg (Nat.not_le.mpr hc.1), if_pos hc.2]
theorem e_alenX {k : Nat} (hd : decode (q_cc M) pc = .ok (.arraylength, 1)) (hk : k < 3) (K : p_Ev X d M (pc + 1) lo (.int (nI (X k).1) :: st) μ Q) : p_Ev X d M pc lo (.ref (p_E + k) :: st) μ Q := by
  refine e_x hd (q := (pc + 1, lo, .int (nI (X k).1) :: st, μ)) ?_ K
  show p_alen X pc lo (.ref (p_E + k) :: st) μ = _
  unfold p_alen
  dsimp only
  have e : p_E + k - p_E = k := Nat.add_sub_cancel_left ..
  rw [if_pos (Nat.le_add_right _ _), e, if_pos hk]
theorem e_getst {i k : Nat} (hd : decode (q_cc M) pc = .ok (.getstatic i, 3)) (hl : q_lS (q_o M) i = some k) (K : p_Ev X d M (pc + 3) lo (.ref (p_E + k) :: st) μ Q) : p_Ev X d M pc lo st μ Q := e_p hd rfl (q := (pc + 3, lo, .ref (p_E + k) :: st, μ)) (by unfold p_pool; dsimp only; rw [if_pos rfl, hl]) K
theorem e_new {i v : Nat} (hd : decode (q_cc M) pc = .ok (.new i, 3)) (hl : q_lC (q_o M) i = some v) (K : p_Ev X d M (pc + 3) lo (.ref (mN μ) :: st) (sN μ v 0 (q_N v)) Q) : p_Ev X d M pc lo st μ Q := e_p hd rfl (q := (pc + 3, lo, .ref (mN μ) :: st, sN μ v 0 (q_N v))) (by unfold p_pool; dsimp only; rw [if_pos rfl, hl]) K
theorem e_newI {n : Int32} (hd : decode (q_cc M) pc = .ok (.newarray .int, 2)) (hc : ¬ (n < 0 ∨ 100000 < n.toNatClampNeg)) (K : p_Ev X d M (pc + 2) lo (.ref (mN μ) :: st) (sN μ 20 n.toNatClampNeg n.toNatClampNeg) Q) : p_Ev X d M pc lo (.int n :: st) μ Q := e_p hd rfl (q := (pc + 2, lo, .ref (mN μ) :: st, sN μ 20 n.toNatClampNeg n.toNatClampNeg)) (by unfold p_pool; dsimp only; rw [if_pos rfl, if_neg hc]) K
theorem e_newB {n : Int32} (hd : decode (q_cc M) pc = .ok (.newarray .byte, 2)) (hc : ¬ (n < 0 ∨ 100000 < n.toNatClampNeg)) (K : p_Ev X d M (pc + 2) lo (.ref (mN μ) :: st) (sN μ 21 n.toNatClampNeg n.toNatClampNeg) Q) : p_Ev X d M pc lo (.int n :: st) μ Q := e_p hd rfl (q := (pc + 2, lo, .ref (mN μ) :: st, sN μ 21 n.toNatClampNeg n.toNatClampNeg)) (by unfold p_pool; dsimp only; rw [if_pos rfl, if_neg hc]) K
theorem e_newL {n : Int32} (hd : decode (q_cc M) pc = .ok (.newarray .long, 2)) (hc : ¬ (n < 0 ∨ 100000 < n.toNatClampNeg)) (K : p_Ev X d M (pc + 2) lo (.ref (mN μ) :: st) (sN μ 22 n.toNatClampNeg n.toNatClampNeg) Q) : p_Ev X d M pc lo (.int n :: st) μ Q := e_p hd rfl (q := (pc + 2, lo, .ref (mN μ) :: st, sN μ 22 n.toNatClampNeg n.toNatClampNeg)) (by unfold p_pool; dsimp only; rw [if_pos rfl, if_neg hc]) K
theorem e_newA4 {i : Nat} {n : Int32} (hd : decode (q_cc M) pc = .ok (.anewarray i, 3)) (hl : q_lC (q_o M) i = some 4) (hc : ¬ (n < 0 ∨ 100000 < n.toNatClampNeg)) (K : p_Ev X d M (pc + 3) lo (.ref (mN μ) :: st) (sN μ 23 n.toNatClampNeg n.toNatClampNeg) Q) : p_Ev X d M pc lo (.int n :: st) μ Q := e_p hd rfl (q := (pc + 3, lo, .ref (mN μ) :: st, sN μ 23 n.toNatClampNeg n.toNatClampNeg)) (by unfold p_pool; dsimp only; rw [if_pos rfl, if_neg hc, hl]; rfl) K
theorem e_newA6 {i : Nat} {n : Int32} (hd : decode (q_cc M) pc = .ok (.anewarray i, 3)) (hl : q_lC (q_o M) i = some 6) (hc : ¬ (n < 0 ∨ 100000 < n.toNatClampNeg)) (K : p_Ev X d M (pc + 3) lo (.ref (mN μ) :: st) (sN μ 24 n.toNatClampNeg n.toNatClampNeg) Q) : p_Ev X d M pc lo (.int n :: st) μ Q := e_p hd rfl (q := (pc + 3, lo, .ref (mN μ) :: st, sN μ 24 n.toNatClampNeg n.toNatClampNeg)) (by unfold p_pool; dsimp only; rw [if_pos rfl, if_neg hc, hl]; rfl) K
def s_mn (μ : p_M) : p_M := sR (sR (sN (sN (sN μ 26 2 2) 20 96 96) 20 96 96) (mN μ) 0 (some (mN μ + 1))) (mN μ) 1 (some (mN μ + 2))
theorem e_mnew {k dm : Nat} (hd : decode (q_cc M) pc = .ok (.multianewarray k dm, 4)) (hc : (4 : Nat) = 4 ∧ dm = 2 ∧ q_o M = 8 ∧ k = 20) (K : p_Ev X d M (pc + 4) lo (.ref (mN μ) :: st) (s_mn μ) Q) : p_Ev X d M pc lo (.int 96 :: .int 2 :: st) μ Q := e_p hd rfl (q := (pc + 4, lo, .ref (mN μ) :: st, s_mn μ)) (by unfold p_pool; dsimp only; rw [if_pos hc]; rfl) K
theorem e_cast {k a : Nat} (hd : decode (q_cc M) pc = .ok (.checkcast k, 3)) (hc : (q_o M = 2 ∧ k = 16 ∧ mK μ a = 20 ∧ a < mN μ) ∨ (q_lC (q_o M) k = some 5 ∧ mK μ a = 5 ∧ a < mN μ)) (K : p_Ev X d M (pc + 3) lo (.ref a :: st) μ Q) : p_Ev X d M pc lo (.ref a :: st) μ Q := e_p hd rfl (q := (pc + 3, lo, .ref a :: st, μ)) (by unfold p_pool; dsimp only; rw [if_pos rfl, if_pos hc]) K
theorem e_aret {a : Nat} {c : String} (hd : decode (q_cc M) pc = .ok (.areturn, 1)) (hr : q_rt M = some (.object c)) (hQ : Q ((0, some (.ref a)), μ)) : p_Ev X d M pc lo [.ref a] μ Q := e_r hd rfl rfl (by unfold p_ret; simp only [hr, if_pos]) hQ
theorem e_aretT {a : Nat} {c : String} (hd : decode (q_cc M) pc = .ok (.areturn, 1)) (hr : q_rt M = some (.object c)) (hQ : Q (tA (0, a, μ))) : p_Ev X d M pc lo [.ref a] μ Q := e_aret hd hr hQ
theorem e_astZ_n {k : Fin 4} (hd : decode (q_cc M) pc = .ok (.astore_n k, 1)) {lo' : List Value} (hk : (k : Nat) < lo.length) (hl : lo.set (k : Nat) (.retAddr 0) = lo') (K : p_Ev X d M (pc + 1) lo' st μ Q) : p_Ev X d M pc lo (.retAddr 0 :: st) μ Q := by subst hl; exact e_x hd (by show p_ast k 1 pc lo (.retAddr 0 :: st) μ = _; unfold p_ast; dsimp only; rw [if_pos hk]) K
theorem e_astZ {k : Nat} (hd : decode (q_cc M) pc = .ok (.astore k, 2)) {lo' : List Value} (hk : k < lo.length) (hl : lo.set k (.retAddr 0) = lo') (K : p_Ev X d M (pc + 2) lo' st μ Q) : p_Ev X d M pc lo (.retAddr 0 :: st) μ Q := by subst hl; exact e_x hd (by show p_ast k 2 pc lo (.retAddr 0 :: st) μ = _; unfold p_ast; dsimp only; rw [if_pos hk]) K
theorem e_lswK {x v : Int32} {df off : Int} {ps : Array (Int × Int)} {len : Nat} (hd : decode (q_cc M) pc = .ok (.lookupswitch df ps, len)) (hs : (ps.toList.zip (ps.toList.drop 1)).all (fun (a, next) => a.1 < next.1) = true) (hx : x = v) (ho : Op.lookupswitch.offset ps.toList df v.toInt = off) (tgt : Nat) (ht : ¬ (pc : Int) + off < 0 ∧ ((pc : Int) + off).toNat = tgt) (K : p_Ev X d M tgt lo st μ Q) : p_Ev X d M pc lo (.int x :: st) μ Q := by
  obtain ⟨h1, h2⟩ := ht
  subst h2 hx ho
  exact e_x hd (by show p_lsw df ps pc lo (.int x :: st) μ = _; unfold p_lsw; dsimp only; rw [if_pos hs]; unfold p_go; rw [if_neg h1]) K
theorem e_lswD {x : Int32} {df : Int} {ps : Array (Int × Int)} {len : Nat} (hd : decode (q_cc M) pc = .ok (.lookupswitch df ps, len)) (hs : (ps.toList.zip (ps.toList.drop 1)).all (fun (a, next) => a.1 < next.1) = true) (ho : Op.lookupswitch.offset ps.toList df x.toInt = df) (tgt : Nat) (ht : ¬ (pc : Int) + df < 0 ∧ ((pc : Int) + df).toNat = tgt) (K : p_Ev X d M tgt lo st μ Q) : p_Ev X d M pc lo (.int x :: st) μ Q := by
  obtain ⟨h1, h2⟩ := ht
  subst h2
  exact e_x hd (by show p_lsw df ps pc lo (.int x :: st) μ = _; unfold p_lsw; dsimp only; rw [if_pos hs, ho]; unfold p_go; rw [if_neg h1]) K
/-! primitives -/
theorem e_oinit {k a : Nat} (hd : decode (q_cc M) pc = .ok (.invokespecial k, 3)) (hl : q_lP (q_o M) k = some 0) (hs : p_cat st ≤ 8) (hc : a < mN μ ∧ mK μ a < 15) (K : p_Ev X d M (pc + 3) lo st μ Q) : p_Ev X d M pc lo (.ref a :: st) μ Q :=
  e_pr (kk := 0) (as := [.ref a]) (rest := st) (v := none) (μ1 := μ) hd rfl rfl rfl rfl (by unfold p_callP; rw [if_pos rfl]; simp only [hl]; unfold p_pop; rw [if_pos ⟨by simp, hs, rfl⟩]; rfl) (by show (if _ then _ else none) = _; rw [if_pos hc]) K
theorem e_linit {k a : Nat} (hd : decode (q_cc M) pc = .ok (.invokespecial k, 3)) (hl : q_lP (q_o M) k = some 6) (hs : p_cat st ≤ 8) (hc : a < mN μ ∧ mK μ a = 0) (K : p_Ev X d M (pc + 3) lo st (sR μ a 1 (some (p_E + 3))) Q) : p_Ev X d M pc lo (.ref a :: st) μ Q :=
  e_pr (kk := 6) (as := [.ref a]) (rest := st) (v := none) (μ1 := sR μ a 1 (some (p_E + 3))) hd rfl rfl rfl rfl (by unfold p_callP; rw [if_pos rfl]; simp only [hl]; unfold p_pop; rw [if_pos ⟨by simp, hs, rfl⟩]; rfl) (by show (if _ then _ else none) = _; rw [if_pos hc]) K
theorem e_lsz {k a : Nat} (hd : decode (q_cc M) pc = .ok (.invokevirtual k, 3)) (hl : q_lP (q_o M) k = some 7) (hs : p_cat st ≤ 8) (hc : a < mN μ ∧ mK μ a = 0) (K : p_Ev X d M (pc + 3) lo (.int (mI μ a 2) :: st) μ Q) : p_Ev X d M pc lo (.ref a :: st) μ Q :=
  e_pr (kk := 7) (as := [.ref a]) (rest := st) (v := some (.int (mI μ a 2))) (μ1 := μ) hd rfl rfl rfl rfl (by unfold p_callP; rw [if_pos rfl]; simp only [hl]; unfold p_pop; rw [if_pos ⟨by simp, hs, rfl⟩]; rfl) (by show (if _ then _ else none) = _; rw [if_pos hc]) K
theorem e_lget {k a b v : Nat} {i : Int32} (hd : decode (q_cc M) pc = .ok (.invokevirtual k, 3)) (hl : q_lP (q_o M) k = some 8) (hs : p_cat st ≤ 8) (hc : a < mN μ ∧ mK μ a = 0 ∧ ¬ i < 0 ∧ i < mI μ a 2) (hb : mR μ a 1 = some b) (hb2 : b < mN μ ∧ mK μ b = 25 ∧ i.toNatClampNeg < mL μ b) (hv : mR μ b i.toNatClampNeg = some v) (K : p_Ev X d M (pc + 3) lo (.ref v :: st) μ Q) : p_Ev X d M pc lo (.int i :: .ref a :: st) μ Q :=
  e_pr (kk := 8) (as := [.ref a, .int i]) (rest := st) (v := some (.ref v)) (μ1 := μ) hd rfl rfl rfl rfl (by unfold p_callP; rw [if_pos rfl]; simp only [hl]; unfold p_pop; rw [if_pos ⟨by simp, hs, rfl⟩]; rfl) (by
    show (if _ then _ else none) = _
    rw [if_pos hc, hb]
    dsimp only
    rw [if_pos hb2, hv]
    rfl) K
theorem al_prim {a v : Nat} (h : al_add a v μ = some μ1) : p_prim X 9 [.ref a, .ref v] μ = some (some (.int 1), μ1) := by
  unfold al_add at h
  show (if _ then _ else none) = _
  by_cases hc : a < mN μ ∧ mK μ a = 0 ∧ v < mN μ ∧ mK μ v = 5 ∧ ¬ mI μ a 2 < 0 ∧ mI μ a 2 < 1000
  · rw [if_pos hc] at h ⊢
    cases hb : mR μ a 1 with
    | none => rw [hb] at h; cases h
    | some b =>
      rw [hb] at h
      dsimp only at h ⊢
      by_cases h1 : b = p_E + 3 ∧ mI μ a 2 = 0
      · rw [if_pos h1] at h ⊢
        cases h
        rfl
      · rw [if_neg h1] at h ⊢
        by_cases h2 : b < mN μ ∧ mK μ b = 25 ∧ (mI μ a 2).toNatClampNeg < mL μ b
        · rw [if_pos h2] at h ⊢
          cases h
          rfl
        · rw [if_neg h2] at h ⊢
          by_cases h3 : b < mN μ ∧ mK μ b = 25 ∧ (mI μ a 2).toNatClampNeg = mL μ b ∧ 2 ≤ mL μ b ∧ mL μ b ≤ 1000
          · rw [if_pos h3] at h ⊢
            cases h
            rfl
          · rw [if_neg h3] at h
            cases h
  · rw [if_neg hc] at h
    cases h
theorem e_ladd' {k a v : Nat} (hd : decode (q_cc M) pc = .ok (.invokevirtual k, 3)) (hl : q_lP (q_o M) k = some 9) (hs : p_cat st ≤ 8) (hx : al_add a v μ = some μ1) (K : p_Ev X d M (pc + 3) lo (.int 1 :: st) μ1 Q) : p_Ev X d M pc lo (.ref v :: .ref a :: st) μ Q :=
  e_pr (kk := 9) (as := [.ref a, .ref v]) (rest := st) (v := some (.int 1)) (μ1 := μ1) hd rfl rfl rfl rfl (by unfold p_callP; rw [if_pos rfl]; simp only [hl]; unfold p_pop; rw [if_pos ⟨by simp, hs, rfl⟩]; rfl) (al_prim hx) K
theorem e_acp {k a b : Nat} {s t n : Int32} (hd : decode (q_cc M) pc = .ok (.invokestatic k, 3)) (hl : q_lP (q_o M) k = some 4) (hs : p_cat st ≤ 8) (hc : ¬ (s < 0 ∨ t < 0 ∨ n < 0 ∨ ¬ mK μ b = 20 ∨ mN μ ≤ b ∨ mL μ b < t.toNatClampNeg + n.toNatClampNeg)) (ha : a < p_E ∧ mK μ a = 20 ∧ a < mN μ ∧ s.toNatClampNeg + n.toNatClampNeg ≤ mL μ a) (K : p_Ev X d M (pc + 3) lo st (sA μ b (va_cpy (mI μ a) (mI μ b) s.toNatClampNeg t.toNatClampNeg n.toNatClampNeg)) Q) : p_Ev X d M pc lo (.int n :: .int t :: .ref b :: .int s :: .ref a :: st) μ Q :=
  e_pr (kk := 4) (as := [.ref a, .int s, .ref b, .int t, .int n]) (rest := st) (v := none) (μ1 := sA μ b (va_cpy (mI μ a) (mI μ b) s.toNatClampNeg t.toNatClampNeg n.toNatClampNeg)) hd rfl rfl rfl rfl (by unfold p_callP; rw [if_pos rfl]; simp only [hl]; unfold p_pop; rw [if_pos ⟨by simp, hs, rfl⟩]; rfl) (by
    show (if _ then none else _) = _
    rw [if_neg hc, if_neg (Nat.not_le.mpr ha.1), if_pos ha.2]) K
theorem e_acpX {k x b : Nat} {s t n : Int32} (hd : decode (q_cc M) pc = .ok (.invokestatic k, 3)) (hl : q_lP (q_o M) k = some 4) (hs : p_cat st ≤ 8) (hx : x < 3) (hc : ¬ (s < 0 ∨ t < 0 ∨ n < 0 ∨ ¬ mK μ b = 20 ∨ mN μ ≤ b ∨ mL μ b < t.toNatClampNeg + n.toNatClampNeg)) (ha : s.toNatClampNeg + n.toNatClampNeg ≤ (X x).1) (K : p_Ev X d M (pc + 3) lo st (sA μ b (va_cpy (X x).2 (mI μ b) s.toNatClampNeg t.toNatClampNeg n.toNatClampNeg)) Q) : p_Ev X d M pc lo (.int n :: .int t :: .ref b :: .int s :: .ref (p_E + x) :: st) μ Q :=
  e_pr (kk := 4) (as := [.ref (p_E + x), .int s, .ref b, .int t, .int n]) (rest := st) (v := none) (μ1 := sA μ b (va_cpy (X x).2 (mI μ b) s.toNatClampNeg t.toNatClampNeg n.toNatClampNeg)) hd rfl rfl rfl rfl (by unfold p_callP; rw [if_pos rfl]; simp only [hl]; unfold p_pop; rw [if_pos ⟨by simp, hs, rfl⟩]; rfl) (by
    have e : p_E + x - p_E = x := Nat.add_sub_cancel_left ..
    show (if _ then none else _) = _
    rw [if_neg hc, if_pos (Nat.le_add_right _ _), e, if_pos ⟨hx, ha⟩]) K
def s_cln (X : p_X) (μ : p_M) : p_M := sA (sN μ 20 (X 1).1 (X 1).1) (mN μ) (fun j => if j < (X 1).1 then (X 1).2 j else 0)
theorem e_cln {k : Nat} (hd : decode (q_cc M) pc = .ok (.invokevirtual k, 3)) (hl : q_lP (q_o M) k = some 5) (hs : p_cat st ≤ 8) (K : p_Ev X d M (pc + 3) lo (.ref (mN μ) :: st) (s_cln X μ) Q) : p_Ev X d M pc lo (.ref (p_E + 1) :: st) μ Q :=
  e_pr (kk := 5) (as := [.ref (p_E + 1)]) (rest := st) (v := some (.ref (mN μ))) (μ1 := s_cln X μ) hd rfl rfl rfl rfl (by unfold p_callP; rw [if_pos rfl]; simp only [hl]; unfold p_pop; rw [if_pos ⟨by simp, hs, rfl⟩]; rfl) (by
    unfold p_prim
    dsimp only
    rw [if_pos rfl]
    rfl) K
/-- throw new E(text) -/
theorem e_thr {k : Nat} {v : Nat × Nat × Nat} (hd : decode (q_cc M) pc = .ok (.new k, 3)) (hX : q_lX (q_o M) k = some v) (hC : q_lC (q_o M) k = none) (hh : q_hh M = []) (h1 : decode (q_cc M) (pc + 3) = .ok (.dup, 1)) (h2 : decode (q_cc M) (pc + 4) = .ok (.ldc_w v.2.1, 3)) (h3 : decode (q_cc M) (pc + 7) = .ok (.invokespecial v.2.2, 3)) (h4 : decode (q_cc M) (pc + 10) = .ok (.athrow, 1)) (hQ : Q ((v.1, none), sG μ 1 6)) : p_Ev X d M pc lo [] μ Q :=
  e_t hd rfl (by unfold p_pool; dsimp only; rw [if_pos rfl, hC]) rfl (by unfold p_thr; dsimp only; rw [hX]; dsimp only; rw [if_pos ⟨h1, h2, h3, h4, hh, rfl⟩]) hQ
theorem f_cVi {k a : Nat} {f : q_L} {as : List Value} {x : Int32} (hd : decode (q_cc M) pc = .ok (.invokevirtual k, 3)) (hP : q_lP (q_o M) k = none) (hl : q_lM (q_o M) k = some f) (hk : f.2.2.1 = 0 ∧ q_hh f.2.2.2.2 = [] ∧ q_o f.2.2.2.2 < 15) (hp : p_pop (q_na f.2.2.2.2) st = some (.ref a :: as, rest)) (ha : mK μ a = q_o f.2.2.2.2 ∧ a < mN μ) (hcal : ∀ Q' : p_R → Prop, Q' ((0, some (.int x)), μ1) → p_Ev X d f.2.2.2.2 0 (p_loc f.2.2.2.2 (.ref a :: as)) [] μ Q') (K : p_Ev X (d + 1) M (pc + 3) lo (.int x :: rest) μ1 Q) : p_Ev X (d + 1) M pc lo st μ Q := by
  refine e_c (f := f) (as := (.ref a :: as)) (rest := rest) hd rfl rfl rfl rfl ?_ ?_ (Or.inr hk.2.1) ?_
  · unfold p_callP; rw [if_pos rfl]; simp only [hP]
  · unfold p_call; rw [if_pos rfl]; simp only [hl]; rw [if_pos hk.1, hp]; dsimp only; rw [if_pos ⟨ha.2, ha.1, hk.2.2⟩]
  · exact hcal _ (Or.inl ⟨rfl, K⟩)
theorem f_cVv {k a : Nat} {f : q_L} {as : List Value} (hd : decode (q_cc M) pc = .ok (.invokevirtual k, 3)) (hP : q_lP (q_o M) k = none) (hl : q_lM (q_o M) k = some f) (hk : f.2.2.1 = 0 ∧ q_hh f.2.2.2.2 = [] ∧ q_o f.2.2.2.2 < 15) (hp : p_pop (q_na f.2.2.2.2) st = some (.ref a :: as, rest)) (ha : mK μ a = q_o f.2.2.2.2 ∧ a < mN μ) (hcal : ∀ Q' : p_R → Prop, Q' ((0, none), μ1) → p_Ev X d f.2.2.2.2 0 (p_loc f.2.2.2.2 (.ref a :: as)) [] μ Q') (K : p_Ev X (d + 1) M (pc + 3) lo (rest) μ1 Q) : p_Ev X (d + 1) M pc lo st μ Q := by
  refine e_c (f := f) (as := (.ref a :: as)) (rest := rest) hd rfl rfl rfl rfl ?_ ?_ (Or.inr hk.2.1) ?_
  · unfold p_callP; rw [if_pos rfl]; simp only [hP]
  · unfold p_call; rw [if_pos rfl]; simp only [hl]; rw [if_pos hk.1, hp]; dsimp only; rw [if_pos ⟨ha.2, ha.1, hk.2.2⟩]
  · exact hcal _ (Or.inl ⟨rfl, K⟩)
theorem f_cVr {k a : Nat} {f : q_L} {as : List Value} {x : Nat} (hd : decode (q_cc M) pc = .ok (.invokevirtual k, 3)) (hP : q_lP (q_o M) k = none) (hl : q_lM (q_o M) k = some f) (hk : f.2.2.1 = 0 ∧ q_hh f.2.2.2.2 = [] ∧ q_o f.2.2.2.2 < 15) (hp : p_pop (q_na f.2.2.2.2) st = some (.ref a :: as, rest)) (ha : mK μ a = q_o f.2.2.2.2 ∧ a < mN μ) (hcal : ∀ Q' : p_R → Prop, Q' ((0, some (.ref x)), μ1) → p_Ev X d f.2.2.2.2 0 (p_loc f.2.2.2.2 (.ref a :: as)) [] μ Q') (K : p_Ev X (d + 1) M (pc + 3) lo (.ref x :: rest) μ1 Q) : p_Ev X (d + 1) M pc lo st μ Q := by
  refine e_c (f := f) (as := (.ref a :: as)) (rest := rest) hd rfl rfl rfl rfl ?_ ?_ (Or.inr hk.2.1) ?_
  · unfold p_callP; rw [if_pos rfl]; simp only [hP]
  · unfold p_call; rw [if_pos rfl]; simp only [hl]; rw [if_pos hk.1, hp]; dsimp only; rw [if_pos ⟨ha.2, ha.1, hk.2.2⟩]
  · exact hcal _ (Or.inl ⟨rfl, K⟩)
theorem f_tVi {k a : Nat} {f : q_L} {as : List Value} {q : Nat × Int32 × p_M} (hd : decode (q_cc M) pc = .ok (.invokevirtual k, 3)) (hP : q_lP (q_o M) k = none) (hl : q_lM (q_o M) k = some f) (hk : f.2.2.1 = 0 ∧ q_hh f.2.2.2.2 = [] ∧ q_o f.2.2.2.2 < 15) (hp : p_pop (q_na f.2.2.2.2) st = some (.ref a :: as, rest)) (ha : mK μ a = q_o f.2.2.2.2 ∧ a < mN μ) (hx : ¬ (f.2.2.1 = 2 ∨ ¬ q_hh f.2.2.2.2 = [])) (hh : q_hh M = []) (hcal : ∀ Q' : p_R → Prop, Q' (tI q) → p_Ev X d f.2.2.2.2 0 (p_loc f.2.2.2.2 (.ref a :: as)) [] μ Q') (K0 : q.1 = 0 → p_Ev X (d + 1) M (pc + 3) lo (.int q.2.1 :: rest) q.2.2 Q) (K1 : ¬ q.1 = 0 → Q ((q.1, none), q.2.2)) : p_Ev X (d + 1) M pc lo st μ Q := by
  refine e_c (f := f) (as := (.ref a :: as)) (rest := rest) hd rfl rfl rfl rfl ?_ ?_ (Or.inr hk.2.1) ?_
  · unfold p_callP; rw [if_pos rfl]; simp only [hP]
  · unfold p_call; rw [if_pos rfl]; simp only [hl]; rw [if_pos hk.1, hp]; dsimp only; rw [if_pos ⟨ha.2, ha.1, hk.2.2⟩]
  · refine hcal _ ?_
    obtain ⟨o, v, m⟩ := q
    cases o with
    | zero => exact Or.inl ⟨rfl, K0 rfl⟩
    | succ E => exact Or.inr ⟨E, rfl, hx, Or.inr ⟨by rw [hh]; rfl, hh, K1 (Nat.succ_ne_zero E)⟩⟩
theorem f_hVi {k a : Nat} {f : q_L} {as : List Value} {q : Nat × Int32 × p_M} (hd : decode (q_cc M) pc = .ok (.invokevirtual k, 3)) (hP : q_lP (q_o M) k = none) (hl : q_lM (q_o M) k = some f) (hk : f.2.2.1 = 0 ∧ q_hh f.2.2.2.2 = [] ∧ q_o f.2.2.2.2 < 15) (hp : p_pop (q_na f.2.2.2.2) st = some (.ref a :: as, rest)) (ha : mK μ a = q_o f.2.2.2.2 ∧ a < mN μ) (hx : ¬ (f.2.2.1 = 2 ∨ ¬ q_hh f.2.2.2.2 = [])) (hcal : ∀ Q' : p_R → Prop, Q' (tI q) → p_Ev X d f.2.2.2.2 0 (p_loc f.2.2.2.2 (.ref a :: as)) [] μ Q') (K0 : q.1 = 0 → p_Ev X (d + 1) M (pc + 3) lo (.int q.2.1 :: rest) q.2.2 Q) (K1 : ¬ q.1 = 0 → ∃ h, p_hnd M pc q.1 (q_hh M) = some h ∧ p_Ev X (d + 1) M h lo [.retAddr 0] q.2.2 Q) : p_Ev X (d + 1) M pc lo st μ Q := by
  refine e_c (f := f) (as := (.ref a :: as)) (rest := rest) hd rfl rfl rfl rfl ?_ ?_ (Or.inr hk.2.1) ?_
  · unfold p_callP; rw [if_pos rfl]; simp only [hP]
  · unfold p_call; rw [if_pos rfl]; simp only [hl]; rw [if_pos hk.1, hp]; dsimp only; rw [if_pos ⟨ha.2, ha.1, hk.2.2⟩]
  · refine hcal _ ?_
    obtain ⟨o, v, m⟩ := q
    cases o with
    | zero => exact Or.inl ⟨rfl, K0 rfl⟩
    | succ E => exact Or.inr ⟨E, rfl, hx, Or.inl (K1 (Nat.succ_ne_zero E))⟩
theorem f_tVv {k a : Nat} {f : q_L} {as : List Value} {q : Nat × Int32 × p_M} (hd : decode (q_cc M) pc = .ok (.invokevirtual k, 3)) (hP : q_lP (q_o M) k = none) (hl : q_lM (q_o M) k = some f) (hk : f.2.2.1 = 0 ∧ q_hh f.2.2.2.2 = [] ∧ q_o f.2.2.2.2 < 15) (hp : p_pop (q_na f.2.2.2.2) st = some (.ref a :: as, rest)) (ha : mK μ a = q_o f.2.2.2.2 ∧ a < mN μ) (hx : ¬ (f.2.2.1 = 2 ∨ ¬ q_hh f.2.2.2.2 = [])) (hh : q_hh M = []) (hcal : ∀ Q' : p_R → Prop, Q' (tV q) → p_Ev X d f.2.2.2.2 0 (p_loc f.2.2.2.2 (.ref a :: as)) [] μ Q') (K0 : q.1 = 0 → p_Ev X (d + 1) M (pc + 3) lo (rest) q.2.2 Q) (K1 : ¬ q.1 = 0 → Q ((q.1, none), q.2.2)) : p_Ev X (d + 1) M pc lo st μ Q := by
  refine e_c (f := f) (as := (.ref a :: as)) (rest := rest) hd rfl rfl rfl rfl ?_ ?_ (Or.inr hk.2.1) ?_
  · unfold p_callP; rw [if_pos rfl]; simp only [hP]
  · unfold p_call; rw [if_pos rfl]; simp only [hl]; rw [if_pos hk.1, hp]; dsimp only; rw [if_pos ⟨ha.2, ha.1, hk.2.2⟩]
  · refine hcal _ ?_
    obtain ⟨o, v, m⟩ := q
    cases o with
    | zero => exact Or.inl ⟨rfl, K0 rfl⟩
    | succ E => exact Or.inr ⟨E, rfl, hx, Or.inr ⟨by rw [hh]; rfl, hh, K1 (Nat.succ_ne_zero E)⟩⟩
theorem f_hVv {k a : Nat} {f : q_L} {as : List Value} {q : Nat × Int32 × p_M} (hd : decode (q_cc M) pc = .ok (.invokevirtual k, 3)) (hP : q_lP (q_o M) k = none) (hl : q_lM (q_o M) k = some f) (hk : f.2.2.1 = 0 ∧ q_hh f.2.2.2.2 = [] ∧ q_o f.2.2.2.2 < 15) (hp : p_pop (q_na f.2.2.2.2) st = some (.ref a :: as, rest)) (ha : mK μ a = q_o f.2.2.2.2 ∧ a < mN μ) (hx : ¬ (f.2.2.1 = 2 ∨ ¬ q_hh f.2.2.2.2 = [])) (hcal : ∀ Q' : p_R → Prop, Q' (tV q) → p_Ev X d f.2.2.2.2 0 (p_loc f.2.2.2.2 (.ref a :: as)) [] μ Q') (K0 : q.1 = 0 → p_Ev X (d + 1) M (pc + 3) lo (rest) q.2.2 Q) (K1 : ¬ q.1 = 0 → ∃ h, p_hnd M pc q.1 (q_hh M) = some h ∧ p_Ev X (d + 1) M h lo [.retAddr 0] q.2.2 Q) : p_Ev X (d + 1) M pc lo st μ Q := by
  refine e_c (f := f) (as := (.ref a :: as)) (rest := rest) hd rfl rfl rfl rfl ?_ ?_ (Or.inr hk.2.1) ?_
  · unfold p_callP; rw [if_pos rfl]; simp only [hP]
  · unfold p_call; rw [if_pos rfl]; simp only [hl]; rw [if_pos hk.1, hp]; dsimp only; rw [if_pos ⟨ha.2, ha.1, hk.2.2⟩]
  · refine hcal _ ?_
    obtain ⟨o, v, m⟩ := q
    cases o with
    | zero => exact Or.inl ⟨rfl, K0 rfl⟩
    | succ E => exact Or.inr ⟨E, rfl, hx, Or.inl (K1 (Nat.succ_ne_zero E))⟩
theorem f_tVr {k a : Nat} {f : q_L} {as : List Value} {q : Nat × Nat × p_M} (hd : decode (q_cc M) pc = .ok (.invokevirtual k, 3)) (hP : q_lP (q_o M) k = none) (hl : q_lM (q_o M) k = some f) (hk : f.2.2.1 = 0 ∧ q_hh f.2.2.2.2 = [] ∧ q_o f.2.2.2.2 < 15) (hp : p_pop (q_na f.2.2.2.2) st = some (.ref a :: as, rest)) (ha : mK μ a = q_o f.2.2.2.2 ∧ a < mN μ) (hx : ¬ (f.2.2.1 = 2 ∨ ¬ q_hh f.2.2.2.2 = [])) (hh : q_hh M = []) (hcal : ∀ Q' : p_R → Prop, Q' (tA q) → p_Ev X d f.2.2.2.2 0 (p_loc f.2.2.2.2 (.ref a :: as)) [] μ Q') (K0 : q.1 = 0 → p_Ev X (d + 1) M (pc + 3) lo (.ref q.2.1 :: rest) q.2.2 Q) (K1 : ¬ q.1 = 0 → Q ((q.1, none), q.2.2)) : p_Ev X (d + 1) M pc lo st μ Q := by
  refine e_c (f := f) (as := (.ref a :: as)) (rest := rest) hd rfl rfl rfl rfl ?_ ?_ (Or.inr hk.2.1) ?_
  · unfold p_callP; rw [if_pos rfl]; simp only [hP]
  · unfold p_call; rw [if_pos rfl]; simp only [hl]; rw [if_pos hk.1, hp]; dsimp only; rw [if_pos ⟨ha.2, ha.1, hk.2.2⟩]
  · refine hcal _ ?_
    obtain ⟨o, v, m⟩ := q
    cases o with
    | zero => exact Or.inl ⟨rfl, K0 rfl⟩
    | succ E => exact Or.inr ⟨E, rfl, hx, Or.inr ⟨by rw [hh]; rfl, hh, K1 (Nat.succ_ne_zero E)⟩⟩
theorem f_cSi {k : Nat} {f : q_L} {as : List Value} {x : Int32} (hd : decode (q_cc M) pc = .ok (.invokestatic k, 3)) (hP : q_lP (q_o M) k = none) (hl : q_lM (q_o M) k = some f) (hk : f.2.2.1 = 1) (hp : p_pop (q_na f.2.2.2.2) st = some (as, rest)) (hcal : ∀ Q' : p_R → Prop, Q' ((0, some (.int x)), μ1) → p_Ev X d f.2.2.2.2 0 (p_loc f.2.2.2.2 as) [] μ Q') (K : p_Ev X (d + 1) M (pc + 3) lo (.int x :: rest) μ1 Q) : p_Ev X (d + 1) M pc lo st μ Q := by
  refine e_c (f := f) (as := as) (rest := rest) hd rfl rfl rfl rfl ?_ ?_ (Or.inl hk) ?_
  · unfold p_callP; rw [if_pos rfl]; simp only [hP]
  · unfold p_call; rw [if_pos rfl]; simp only [hl]; rw [if_pos hk, hp]; rfl
  · exact hcal _ (Or.inl ⟨rfl, K⟩)
theorem f_cSv {k : Nat} {f : q_L} {as : List Value} (hd : decode (q_cc M) pc = .ok (.invokestatic k, 3)) (hP : q_lP (q_o M) k = none) (hl : q_lM (q_o M) k = some f) (hk : f.2.2.1 = 1) (hp : p_pop (q_na f.2.2.2.2) st = some (as, rest)) (hcal : ∀ Q' : p_R → Prop, Q' ((0, none), μ1) → p_Ev X d f.2.2.2.2 0 (p_loc f.2.2.2.2 as) [] μ Q') (K : p_Ev X (d + 1) M (pc + 3) lo (rest) μ1 Q) : p_Ev X (d + 1) M pc lo st μ Q := by
  refine e_c (f := f) (as := as) (rest := rest) hd rfl rfl rfl rfl ?_ ?_ (Or.inl hk) ?_
  · unfold p_callP; rw [if_pos rfl]; simp only [hP]
  · unfold p_call; rw [if_pos rfl]; simp only [hl]; rw [if_pos hk, hp]; rfl
  · exact hcal _ (Or.inl ⟨rfl, K⟩)
theorem f_cSr {k : Nat} {f : q_L} {as : List Value} {x : Nat} (hd : decode (q_cc M) pc = .ok (.invokestatic k, 3)) (hP : q_lP (q_o M) k = none) (hl : q_lM (q_o M) k = some f) (hk : f.2.2.1 = 1) (hp : p_pop (q_na f.2.2.2.2) st = some (as, rest)) (hcal : ∀ Q' : p_R → Prop, Q' ((0, some (.ref x)), μ1) → p_Ev X d f.2.2.2.2 0 (p_loc f.2.2.2.2 as) [] μ Q') (K : p_Ev X (d + 1) M (pc + 3) lo (.ref x :: rest) μ1 Q) : p_Ev X (d + 1) M pc lo st μ Q := by
  refine e_c (f := f) (as := as) (rest := rest) hd rfl rfl rfl rfl ?_ ?_ (Or.inl hk) ?_
  · unfold p_callP; rw [if_pos rfl]; simp only [hP]
  · unfold p_call; rw [if_pos rfl]; simp only [hl]; rw [if_pos hk, hp]; rfl
  · exact hcal _ (Or.inl ⟨rfl, K⟩)
theorem f_tSi {k : Nat} {f : q_L} {as : List Value} {q : Nat × Int32 × p_M} (hd : decode (q_cc M) pc = .ok (.invokestatic k, 3)) (hP : q_lP (q_o M) k = none) (hl : q_lM (q_o M) k = some f) (hk : f.2.2.1 = 1) (hp : p_pop (q_na f.2.2.2.2) st = some (as, rest)) (hx : ¬ (f.2.2.1 = 2 ∨ ¬ q_hh f.2.2.2.2 = [])) (hh : q_hh M = []) (hcal : ∀ Q' : p_R → Prop, Q' (tI q) → p_Ev X d f.2.2.2.2 0 (p_loc f.2.2.2.2 as) [] μ Q') (K0 : q.1 = 0 → p_Ev X (d + 1) M (pc + 3) lo (.int q.2.1 :: rest) q.2.2 Q) (K1 : ¬ q.1 = 0 → Q ((q.1, none), q.2.2)) : p_Ev X (d + 1) M pc lo st μ Q := by
  refine e_c (f := f) (as := as) (rest := rest) hd rfl rfl rfl rfl ?_ ?_ (Or.inl hk) ?_
  · unfold p_callP; rw [if_pos rfl]; simp only [hP]
  · unfold p_call; rw [if_pos rfl]; simp only [hl]; rw [if_pos hk, hp]; rfl
  · refine hcal _ ?_
    obtain ⟨o, v, m⟩ := q
    cases o with
    | zero => exact Or.inl ⟨rfl, K0 rfl⟩
    | succ E => exact Or.inr ⟨E, rfl, hx, Or.inr ⟨by rw [hh]; rfl, hh, K1 (Nat.succ_ne_zero E)⟩⟩
theorem f_tSv {k : Nat} {f : q_L} {as : List Value} {q : Nat × Int32 × p_M} (hd : decode (q_cc M) pc = .ok (.invokestatic k, 3)) (hP : q_lP (q_o M) k = none) (hl : q_lM (q_o M) k = some f) (hk : f.2.2.1 = 1) (hp : p_pop (q_na f.2.2.2.2) st = some (as, rest)) (hx : ¬ (f.2.2.1 = 2 ∨ ¬ q_hh f.2.2.2.2 = [])) (hh : q_hh M = []) (hcal : ∀ Q' : p_R → Prop, Q' (tV q) → p_Ev X d f.2.2.2.2 0 (p_loc f.2.2.2.2 as) [] μ Q') (K0 : q.1 = 0 → p_Ev X (d + 1) M (pc + 3) lo (rest) q.2.2 Q) (K1 : ¬ q.1 = 0 → Q ((q.1, none), q.2.2)) : p_Ev X (d + 1) M pc lo st μ Q := by
  refine e_c (f := f) (as := as) (rest := rest) hd rfl rfl rfl rfl ?_ ?_ (Or.inl hk) ?_
  · unfold p_callP; rw [if_pos rfl]; simp only [hP]
  · unfold p_call; rw [if_pos rfl]; simp only [hl]; rw [if_pos hk, hp]; rfl
  · refine hcal _ ?_
    obtain ⟨o, v, m⟩ := q
    cases o with
    | zero => exact Or.inl ⟨rfl, K0 rfl⟩
    | succ E => exact Or.inr ⟨E, rfl, hx, Or.inr ⟨by rw [hh]; rfl, hh, K1 (Nat.succ_ne_zero E)⟩⟩
theorem f_tSr {k : Nat} {f : q_L} {as : List Value} {q : Nat × Nat × p_M} (hd : decode (q_cc M) pc = .ok (.invokestatic k, 3)) (hP : q_lP (q_o M) k = none) (hl : q_lM (q_o M) k = some f) (hk : f.2.2.1 = 1) (hp : p_pop (q_na f.2.2.2.2) st = some (as, rest)) (hx : ¬ (f.2.2.1 = 2 ∨ ¬ q_hh f.2.2.2.2 = [])) (hh : q_hh M = []) (hcal : ∀ Q' : p_R → Prop, Q' (tA q) → p_Ev X d f.2.2.2.2 0 (p_loc f.2.2.2.2 as) [] μ Q') (K0 : q.1 = 0 → p_Ev X (d + 1) M (pc + 3) lo (.ref q.2.1 :: rest) q.2.2 Q) (K1 : ¬ q.1 = 0 → Q ((q.1, none), q.2.2)) : p_Ev X (d + 1) M pc lo st μ Q := by
  refine e_c (f := f) (as := as) (rest := rest) hd rfl rfl rfl rfl ?_ ?_ (Or.inl hk) ?_
  · unfold p_callP; rw [if_pos rfl]; simp only [hP]
  · unfold p_call; rw [if_pos rfl]; simp only [hl]; rw [if_pos hk, hp]; rfl
  · refine hcal _ ?_
    obtain ⟨o, v, m⟩ := q
    cases o with
    | zero => exact Or.inl ⟨rfl, K0 rfl⟩
    | succ E => exact Or.inr ⟨E, rfl, hx, Or.inr ⟨by rw [hh]; rfl, hh, K1 (Nat.succ_ne_zero E)⟩⟩
theorem f_cPv {k a : Nat} {f : q_L} {as : List Value} (hd : decode (q_cc M) pc = .ok (.invokespecial k, 3)) (hP : q_lP (q_o M) k = none) (hl : q_lM (q_o M) k = some f) (hk : f.2.2.1 = 2 ∧ q_hh f.2.2.2.2 = []) (hp : p_pop (q_na f.2.2.2.2) st = some (.ref a :: as, rest)) (ha : mK μ a = q_o f.2.2.2.2 ∧ a < mN μ) (hcal : ∀ Q' : p_R → Prop, Q' ((0, none), μ1) → p_Ev X d f.2.2.2.2 0 (p_loc f.2.2.2.2 (.ref a :: as)) [] μ Q') (K : p_Ev X (d + 1) M (pc + 3) lo (rest) μ1 Q) : p_Ev X (d + 1) M pc lo st μ Q := by
  refine e_c (f := f) (as := (.ref a :: as)) (rest := rest) hd rfl rfl rfl rfl ?_ ?_ (Or.inr hk.2) ?_
  · unfold p_callP; rw [if_pos rfl]; simp only [hP]
  · unfold p_call; rw [if_pos rfl]; simp only [hl]; rw [if_pos hk.1, hp]; dsimp only; rw [if_pos ⟨ha.2, ha.1⟩]
  · exact hcal _ (Or.inl ⟨rfl, K⟩)
end EY
theorem tI_E {e : Nat} {m : p_M} {z : Int32} {Q : p_R → Prop} (hc : ¬ e = 0) (hQ : Q (tI (e, z, m))) : Q ((e, none), m) := by
  unfold tI at hQ
  dsimp only at hQ
  rw [if_neg hc] at hQ
  exact hQ
theorem tA_E {e z : Nat} {m : p_M} {Q : p_R → Prop} (hc : ¬ e = 0) (hQ : Q (tA (e, z, m))) : Q ((e, none), m) := by
  unfold tA at hQ
  dsimp only at hQ
  rw [if_neg hc] at hQ
  exact hQ
theorem lsw_ne2 {x : Int32} {a b df : Int} (h1 : ¬ x = 0) (h2 : ¬ x = 1) : Op.lookupswitch.offset (#[((0 : Int), a), ((1 : Int), b)]).toList df x.toInt = df := by
  show (if (0 : Int) = x.toInt then a else if (1 : Int) = x.toInt then b else df) = df
  rw [if_neg (fun e => h1 (Int32.toInt_inj.mp e.symm)), if_neg (fun e => h2 (Int32.toInt_inj.mp e.symm))]
