/-! a row an instruction, for the pure machine -/
/-- asked on the way -/
def p_ok {α : Type} (c : Prop) [Decidable c] (k : Option α) : Option α := if c then k else none
theorem p_ok_some {α : Type} {c : Prop} [Decidable c] {k : Option α} {r : α} (h : p_ok c k = some r) : c ∧ k = some r := by
  unfold p_ok at h
  split at h
  · exact ⟨by assumption, h⟩
  · cases h
theorem p_bd {α β : Type} {x : Option α} {f : α → Option β} {r : β} (h : x.bind f = some r) : ∃ q, x = some q ∧ f q = some r := by
  cases x with
  | none => cases h
  | some q => exact ⟨q, rfl, h⟩
/-- the reference in a place -/
def rf (μ : p_M) (a k : Nat) : Nat := (mR μ a k).getD 0
def p_fu : Nat := 100000
section EW
variable {X : p_X} {d : Nat} {M : q_M} {pc : Nat} {lo st r : List Value} {μ : p_M} {Q : p_R → Prop}
theorem e_iconst {n : Int} {v : Int32} (hd : decode (q_cc M) pc = .ok (.iconst n, 1)) (hv : Int32.ofInt n = v) (K : p_Ev X d M (pc + 1) lo (.int v :: st) μ Q) : p_Ev X d M pc lo st μ Q := by subst hv; exact e_x hd rfl K
theorem e_bipush {n : Int} {v : Int32} (hd : decode (q_cc M) pc = .ok (.bipush n, 2)) (hv : (Int8.ofInt n).toInt32 = v) (K : p_Ev X d M (pc + 2) lo (.int v :: st) μ Q) : p_Ev X d M pc lo st μ Q := by subst hv; exact e_x hd rfl K
theorem e_sipush {n : Int} {v : Int32} (hd : decode (q_cc M) pc = .ok (.sipush n, 3)) (hv : (Int16.ofInt n).toInt32 = v) (K : p_Ev X d M (pc + 3) lo (.int v :: st) μ Q) : p_Ev X d M pc lo st μ Q := by subst hv; exact e_x hd rfl K
theorem e_lconst {n : Fin 2} {v : Int64} (hd : decode (q_cc M) pc = .ok (.lconst n, 1)) (hv : Int64.ofNat (n : Nat) = v) (K : p_Ev X d M (pc + 1) lo (.long v :: st) μ Q) : p_Ev X d M pc lo st μ Q := by subst hv; exact e_x hd rfl K
theorem e_iload_n {k : Fin 4} {x : Int32} (hd : decode (q_cc M) pc = .ok (.iload_n k, 1)) (hl : lo[(k : Nat)]? = some (.int x)) (K : p_Ev X d M (pc + 1) lo (.int x :: st) μ Q) : p_Ev X d M pc lo st μ Q := e_x hd (by show p_ild k 1 pc lo st μ = _; unfold p_ild; rw [hl]) K
theorem e_iload {k : Nat} {x : Int32} (hd : decode (q_cc M) pc = .ok (.iload k, 2)) (hl : lo[k]? = some (.int x)) (K : p_Ev X d M (pc + 2) lo (.int x :: st) μ Q) : p_Ev X d M pc lo st μ Q := e_x hd (by show p_ild k 2 pc lo st μ = _; unfold p_ild; rw [hl]) K
theorem e_aload_n {k : Fin 4} {x : Nat} (hd : decode (q_cc M) pc = .ok (.aload_n k, 1)) (hl : lo[(k : Nat)]? = some (.ref x)) (K : p_Ev X d M (pc + 1) lo (.ref x :: st) μ Q) : p_Ev X d M pc lo st μ Q := e_x hd (by show p_ald k 1 pc lo st μ = _; unfold p_ald; rw [hl]) K
theorem e_aload {k : Nat} {x : Nat} (hd : decode (q_cc M) pc = .ok (.aload k, 2)) (hl : lo[k]? = some (.ref x)) (K : p_Ev X d M (pc + 2) lo (.ref x :: st) μ Q) : p_Ev X d M pc lo st μ Q := e_x hd (by show p_ald k 2 pc lo st μ = _; unfold p_ald; rw [hl]) K
theorem e_istore_n {k : Fin 4} {x : Int32} (hd : decode (q_cc M) pc = .ok (.istore_n k, 1)) {lo' : List Value} (hk : (k : Nat) < lo.length) (hl : lo.set (k : Nat) (.int x) = lo') (K : p_Ev X d M (pc + 1) lo' st μ Q) : p_Ev X d M pc lo (.int x :: st) μ Q := by subst hl; exact e_x hd (by show p_ist k 1 pc lo (.int x :: st) μ = _; unfold p_ist; dsimp only; rw [if_pos hk]) K
theorem e_istore {k : Nat} {x : Int32} (hd : decode (q_cc M) pc = .ok (.istore k, 2)) {lo' : List Value} (hk : k < lo.length) (hl : lo.set k (.int x) = lo') (K : p_Ev X d M (pc + 2) lo' st μ Q) : p_Ev X d M pc lo (.int x :: st) μ Q := by subst hl; exact e_x hd (by show p_ist k 2 pc lo (.int x :: st) μ = _; unfold p_ist; dsimp only; rw [if_pos hk]) K
theorem e_astore_n {k : Fin 4} {x : Nat} (hd : decode (q_cc M) pc = .ok (.astore_n k, 1)) {lo' : List Value} (hk : (k : Nat) < lo.length) (hl : lo.set (k : Nat) (.ref x) = lo') (K : p_Ev X d M (pc + 1) lo' st μ Q) : p_Ev X d M pc lo (.ref x :: st) μ Q := by subst hl; exact e_x hd (by show p_ast k 1 pc lo (.ref x :: st) μ = _; unfold p_ast; dsimp only; rw [if_pos hk]) K
theorem e_astore {k : Nat} {x : Nat} (hd : decode (q_cc M) pc = .ok (.astore k, 2)) {lo' : List Value} (hk : k < lo.length) (hl : lo.set k (.ref x) = lo') (K : p_Ev X d M (pc + 2) lo' st μ Q) : p_Ev X d M pc lo (.ref x :: st) μ Q := by subst hl; exact e_x hd (by show p_ast k 2 pc lo (.ref x :: st) μ = _; unfold p_ast; dsimp only; rw [if_pos hk]) K
theorem e_iinc {k : Nat} {n : Int} {x v : Int32} (hd : decode (q_cc M) pc = .ok (.iinc k n, 3)) {lo' : List Value} (hx : lo[k]? = some (.int x)) (hv : Int32.ofInt n = v) (hl : lo.set k (.int (x + v)) = lo') (K : p_Ev X d M (pc + 3) lo' st μ Q) : p_Ev X d M pc lo st μ Q := by subst hv hl; exact e_x hd (by show p_iinc k n pc lo st μ = _; unfold p_iinc; rw [hx]) K
theorem e_iadd {x y : Int32} (hd : decode (q_cc M) pc = .ok (.iadd, 1)) (K : p_Ev X d M (pc + 1) lo (.int (x + y) :: st) μ Q) : p_Ev X d M pc lo (.int y :: .int x :: st) μ Q := e_x hd rfl K
theorem e_isub {x y : Int32} (hd : decode (q_cc M) pc = .ok (.isub, 1)) (K : p_Ev X d M (pc + 1) lo (.int (x - y) :: st) μ Q) : p_Ev X d M pc lo (.int y :: .int x :: st) μ Q := e_x hd rfl K
theorem e_imul {x y : Int32} (hd : decode (q_cc M) pc = .ok (.imul, 1)) (K : p_Ev X d M (pc + 1) lo (.int (x * y) :: st) μ Q) : p_Ev X d M pc lo (.int y :: .int x :: st) μ Q := e_x hd rfl K
theorem e_iand {x y : Int32} (hd : decode (q_cc M) pc = .ok (.iand, 1)) (K : p_Ev X d M (pc + 1) lo (.int (x &&& y) :: st) μ Q) : p_Ev X d M pc lo (.int y :: .int x :: st) μ Q := e_x hd rfl K
theorem e_ior {x y : Int32} (hd : decode (q_cc M) pc = .ok (.ior, 1)) (K : p_Ev X d M (pc + 1) lo (.int (x ||| y) :: st) μ Q) : p_Ev X d M pc lo (.int y :: .int x :: st) μ Q := e_x hd rfl K
theorem e_ixor {x y : Int32} (hd : decode (q_cc M) pc = .ok (.ixor, 1)) (K : p_Ev X d M (pc + 1) lo (.int (x ^^^ y) :: st) μ Q) : p_Ev X d M pc lo (.int y :: .int x :: st) μ Q := e_x hd rfl K
theorem e_ishl {x y : Int32} (hd : decode (q_cc M) pc = .ok (.ishl, 1)) (K : p_Ev X d M (pc + 1) lo (.int (x <<< (y &&& 31)) :: st) μ Q) : p_Ev X d M pc lo (.int y :: .int x :: st) μ Q := e_x hd rfl K
theorem e_ishr {x y : Int32} (hd : decode (q_cc M) pc = .ok (.ishr, 1)) (K : p_Ev X d M (pc + 1) lo (.int (x >>> (y &&& 31)) :: st) μ Q) : p_Ev X d M pc lo (.int y :: .int x :: st) μ Q := e_x hd rfl K
theorem e_iushr {x y : Int32} (hd : decode (q_cc M) pc = .ok (.iushr, 1)) (K : p_Ev X d M (pc + 1) lo (.int ((x.toUInt32 >>> (y.toUInt32 &&& Int32.toUInt32 31)).toInt32) :: st) μ Q) : p_Ev X d M pc lo (.int y :: .int x :: st) μ Q := e_x hd rfl K
theorem e_idiv {x y : Int32} (hd : decode (q_cc M) pc = .ok (.idiv, 1)) (hy : ¬ y = 0) (K : p_Ev X d M (pc + 1) lo (.int (x / y) :: st) μ Q) : p_Ev X d M pc lo (.int y :: .int x :: st) μ Q := e_x hd (by show (if y = 0 then none else _) = _; rw [if_neg hy]) K
theorem e_irem {x y : Int32} (hd : decode (q_cc M) pc = .ok (.irem, 1)) (hy : ¬ y = 0) (K : p_Ev X d M (pc + 1) lo (.int (x - x / y * y) :: st) μ Q) : p_Ev X d M pc lo (.int y :: .int x :: st) μ Q := e_x hd (by show (if y = 0 then none else _) = _; rw [if_neg hy]) K
theorem e_ladd {x y : Int64} (hd : decode (q_cc M) pc = .ok (.ladd, 1)) (K : p_Ev X d M (pc + 1) lo (.long (x + y) :: st) μ Q) : p_Ev X d M pc lo (.long y :: .long x :: st) μ Q := e_x hd rfl K
theorem e_lsub {x y : Int64} (hd : decode (q_cc M) pc = .ok (.lsub, 1)) (K : p_Ev X d M (pc + 1) lo (.long (x - y) :: st) μ Q) : p_Ev X d M pc lo (.long y :: .long x :: st) μ Q := e_x hd rfl K
theorem e_lmul {x y : Int64} (hd : decode (q_cc M) pc = .ok (.lmul, 1)) (K : p_Ev X d M (pc + 1) lo (.long (x * y) :: st) μ Q) : p_Ev X d M pc lo (.long y :: .long x :: st) μ Q := e_x hd rfl K
theorem e_ldiv {x y : Int64} (hd : decode (q_cc M) pc = .ok (.ldiv, 1)) (hy : ¬ y = 0) (K : p_Ev X d M (pc + 1) lo (.long (x / y) :: st) μ Q) : p_Ev X d M pc lo (.long y :: .long x :: st) μ Q := e_x hd (by show (if y = 0 then none else _) = _; rw [if_neg hy]) K
theorem e_lcmp {x y : Int64} (hd : decode (q_cc M) pc = .ok (.lcmp, 1)) (K : p_Ev X d M (pc + 1) lo (.int (lg_cmp x y) :: st) μ Q) : p_Ev X d M pc lo (.long y :: .long x :: st) μ Q := e_x hd rfl K
theorem e_i2l {x : Int32} (hd : decode (q_cc M) pc = .ok (.i2l, 1)) (K : p_Ev X d M (pc + 1) lo (.long x.toInt64 :: st) μ Q) : p_Ev X d M pc lo (.int x :: st) μ Q := e_x hd rfl K
theorem e_l2i {x : Int64} (hd : decode (q_cc M) pc = .ok (.l2i, 1)) (K : p_Ev X d M (pc + 1) lo (.int x.toInt32 :: st) μ Q) : p_Ev X d M pc lo (.long x :: st) μ Q := e_x hd rfl K
theorem e_i2b {x : Int32} (hd : decode (q_cc M) pc = .ok (.i2b, 1)) (K : p_Ev X d M (pc + 1) lo (.int x.toInt8.toInt32 :: st) μ Q) : p_Ev X d M pc lo (.int x :: st) μ Q := e_x hd rfl K
theorem e_dupI {x : Int32} (hd : decode (q_cc M) pc = .ok (.dup, 1)) (K : p_Ev X d M (pc + 1) lo (.int x :: .int x :: st) μ Q) : p_Ev X d M pc lo (.int x :: st) μ Q := e_x hd rfl K
theorem e_dupR {x : Nat} (hd : decode (q_cc M) pc = .ok (.dup, 1)) (K : p_Ev X d M (pc + 1) lo (.ref x :: .ref x :: st) μ Q) : p_Ev X d M pc lo (.ref x :: st) μ Q := e_x hd rfl K
theorem e_dup_x1 {x : Int32} {y : Nat} (hd : decode (q_cc M) pc = .ok (.dup_x1, 1)) (K : p_Ev X d M (pc + 1) lo (.int x :: .ref y :: .int x :: st) μ Q) : p_Ev X d M pc lo (.int x :: .ref y :: st) μ Q := e_x hd rfl K
theorem e_dup2 {x : Int32} {y : Nat} (hd : decode (q_cc M) pc = .ok (.dup2, 1)) (K : p_Ev X d M (pc + 1) lo (.int x :: .ref y :: .int x :: .ref y :: st) μ Q) : p_Ev X d M pc lo (.int x :: .ref y :: st) μ Q := e_x hd rfl K
theorem e_popI {x : Int32} (hd : decode (q_cc M) pc = .ok (.pop, 1)) (K : p_Ev X d M (pc + 1) lo st μ Q) : p_Ev X d M pc lo (.int x :: st) μ Q := e_x hd rfl K
theorem e_goto {off : Int} (hd : decode (q_cc M) pc = .ok (.goto off, 3)) (tgt : Nat) (ht : ¬ (pc : Int) + off < 0 ∧ ((pc : Int) + off).toNat = tgt) (K : p_Ev X d M tgt lo st μ Q) : p_Ev X d M pc lo st μ Q := by
  obtain ⟨h1, h2⟩ := ht
  subst h2
  exact e_x hd (by show p_go pc off lo st μ = _; unfold p_go; rw [if_neg h1]) K
theorem e_jT {c : Prop} [Decidable c] {off : Int} (tgt : Nat) (ht : ¬ (pc : Int) + off < 0 ∧ ((pc : Int) + off).toNat = tgt) (hc : c) : p_jmp c pc off lo st μ = some (tgt, lo, st, μ) := by unfold p_jmp; rw [if_neg ht.1, if_pos hc, ht.2]
theorem e_jF {c : Prop} [Decidable c] {off : Int} (ht : ¬ (pc : Int) + off < 0) (hc : ¬ c) : p_jmp c pc off lo st μ = some (pc + 3, lo, st, μ) := by unfold p_jmp; rw [if_neg ht, if_neg hc]
theorem e_if_eq {x : Int32} {off : Int} (hd : decode (q_cc M) pc = .ok (.ifCond .eq off, 3)) (tgt : Nat) (ht : ¬ (pc : Int) + off < 0 ∧ ((pc : Int) + off).toNat = tgt) (hT : x = 0 → p_Ev X d M tgt lo st μ Q) (hF : ¬ (x = 0) → p_Ev X d M (pc + 3) lo st μ Q) : p_Ev X d M pc lo (.int x :: st) μ Q := by
  by_cases hc : x = 0
  · exact e_x hd (e_jT tgt ht hc) (hT hc)
  · exact e_x hd (e_jF ht.1 hc) (hF hc)
theorem e_if_ne {x : Int32} {off : Int} (hd : decode (q_cc M) pc = .ok (.ifCond .ne off, 3)) (tgt : Nat) (ht : ¬ (pc : Int) + off < 0 ∧ ((pc : Int) + off).toNat = tgt) (hT : ¬ x = 0 → p_Ev X d M tgt lo st μ Q) (hF : ¬ (¬ x = 0) → p_Ev X d M (pc + 3) lo st μ Q) : p_Ev X d M pc lo (.int x :: st) μ Q := by
  by_cases hc : ¬ x = 0
  · exact e_x hd (e_jT tgt ht hc) (hT hc)
  · exact e_x hd (e_jF ht.1 hc) (hF hc)
theorem e_if_lt {x : Int32} {off : Int} (hd : decode (q_cc M) pc = .ok (.ifCond .lt off, 3)) (tgt : Nat) (ht : ¬ (pc : Int) + off < 0 ∧ ((pc : Int) + off).toNat = tgt) (hT : x < 0 → p_Ev X d M tgt lo st μ Q) (hF : ¬ (x < 0) → p_Ev X d M (pc + 3) lo st μ Q) : p_Ev X d M pc lo (.int x :: st) μ Q := by
  by_cases hc : x < 0
  · exact e_x hd (e_jT tgt ht hc) (hT hc)
  · exact e_x hd (e_jF ht.1 hc) (hF hc)
theorem e_if_ge {x : Int32} {off : Int} (hd : decode (q_cc M) pc = .ok (.ifCond .ge off, 3)) (tgt : Nat) (ht : ¬ (pc : Int) + off < 0 ∧ ((pc : Int) + off).toNat = tgt) (hT : 0 ≤ x → p_Ev X d M tgt lo st μ Q) (hF : ¬ (0 ≤ x) → p_Ev X d M (pc + 3) lo st μ Q) : p_Ev X d M pc lo (.int x :: st) μ Q := by
  by_cases hc : 0 ≤ x
  · exact e_x hd (e_jT tgt ht hc) (hT hc)
  · exact e_x hd (e_jF ht.1 hc) (hF hc)
theorem e_if_gt {x : Int32} {off : Int} (hd : decode (q_cc M) pc = .ok (.ifCond .gt off, 3)) (tgt : Nat) (ht : ¬ (pc : Int) + off < 0 ∧ ((pc : Int) + off).toNat = tgt) (hT : 0 < x → p_Ev X d M tgt lo st μ Q) (hF : ¬ (0 < x) → p_Ev X d M (pc + 3) lo st μ Q) : p_Ev X d M pc lo (.int x :: st) μ Q := by
  by_cases hc : 0 < x
  · exact e_x hd (e_jT tgt ht hc) (hT hc)
  · exact e_x hd (e_jF ht.1 hc) (hF hc)
theorem e_if_le {x : Int32} {off : Int} (hd : decode (q_cc M) pc = .ok (.ifCond .le off, 3)) (tgt : Nat) (ht : ¬ (pc : Int) + off < 0 ∧ ((pc : Int) + off).toNat = tgt) (hT : x ≤ 0 → p_Ev X d M tgt lo st μ Q) (hF : ¬ (x ≤ 0) → p_Ev X d M (pc + 3) lo st μ Q) : p_Ev X d M pc lo (.int x :: st) μ Q := by
  by_cases hc : x ≤ 0
  · exact e_x hd (e_jT tgt ht hc) (hT hc)
  · exact e_x hd (e_jF ht.1 hc) (hF hc)
theorem e_ic_eq {x y : Int32} {off : Int} (hd : decode (q_cc M) pc = .ok (.if_icmp .eq off, 3)) (tgt : Nat) (ht : ¬ (pc : Int) + off < 0 ∧ ((pc : Int) + off).toNat = tgt) (hT : x = y → p_Ev X d M tgt lo st μ Q) (hF : ¬ (x = y) → p_Ev X d M (pc + 3) lo st μ Q) : p_Ev X d M pc lo (.int y :: .int x :: st) μ Q := by
  by_cases hc : x = y
  · exact e_x hd (e_jT tgt ht hc) (hT hc)
  · exact e_x hd (e_jF ht.1 hc) (hF hc)
theorem e_ic_ne {x y : Int32} {off : Int} (hd : decode (q_cc M) pc = .ok (.if_icmp .ne off, 3)) (tgt : Nat) (ht : ¬ (pc : Int) + off < 0 ∧ ((pc : Int) + off).toNat = tgt) (hT : ¬ x = y → p_Ev X d M tgt lo st μ Q) (hF : ¬ (¬ x = y) → p_Ev X d M (pc + 3) lo st μ Q) : p_Ev X d M pc lo (.int y :: .int x :: st) μ Q := by
  by_cases hc : ¬ x = y
  · exact e_x hd (e_jT tgt ht hc) (hT hc)
  · exact e_x hd (e_jF ht.1 hc) (hF hc)
theorem e_ic_lt {x y : Int32} {off : Int} (hd : decode (q_cc M) pc = .ok (.if_icmp .lt off, 3)) (tgt : Nat) (ht : ¬ (pc : Int) + off < 0 ∧ ((pc : Int) + off).toNat = tgt) (hT : x < y → p_Ev X d M tgt lo st μ Q) (hF : ¬ (x < y) → p_Ev X d M (pc + 3) lo st μ Q) : p_Ev X d M pc lo (.int y :: .int x :: st) μ Q := by
  by_cases hc : x < y
  · exact e_x hd (e_jT tgt ht hc) (hT hc)
  · exact e_x hd (e_jF ht.1 hc) (hF hc)
theorem e_ic_ge {x y : Int32} {off : Int} (hd : decode (q_cc M) pc = .ok (.if_icmp .ge off, 3)) (tgt : Nat) (ht : ¬ (pc : Int) + off < 0 ∧ ((pc : Int) + off).toNat = tgt) (hT : y ≤ x → p_Ev X d M tgt lo st μ Q) (hF : ¬ (y ≤ x) → p_Ev X d M (pc + 3) lo st μ Q) : p_Ev X d M pc lo (.int y :: .int x :: st) μ Q := by
  by_cases hc : y ≤ x
  · exact e_x hd (e_jT tgt ht hc) (hT hc)
  · exact e_x hd (e_jF ht.1 hc) (hF hc)
theorem e_ic_gt {x y : Int32} {off : Int} (hd : decode (q_cc M) pc = .ok (.if_icmp .gt off, 3)) (tgt : Nat) (ht : ¬ (pc : Int) + off < 0 ∧ ((pc : Int) + off).toNat = tgt) (hT : y < x → p_Ev X d M tgt lo st μ Q) (hF : ¬ (y < x) → p_Ev X d M (pc + 3) lo st μ Q) : p_Ev X d M pc lo (.int y :: .int x :: st) μ Q := by
  by_cases hc : y < x
  · exact e_x hd (e_jT tgt ht hc) (hT hc)
  · exact e_x hd (e_jF ht.1 hc) (hF hc)
theorem e_ic_le {x y : Int32} {off : Int} (hd : decode (q_cc M) pc = .ok (.if_icmp .le off, 3)) (tgt : Nat) (ht : ¬ (pc : Int) + off < 0 ∧ ((pc : Int) + off).toNat = tgt) (hT : x ≤ y → p_Ev X d M tgt lo st μ Q) (hF : ¬ (x ≤ y) → p_Ev X d M (pc + 3) lo st μ Q) : p_Ev X d M pc lo (.int y :: .int x :: st) μ Q := by
  by_cases hc : x ≤ y
  · exact e_x hd (e_jT tgt ht hc) (hT hc)
  · exact e_x hd (e_jF ht.1 hc) (hF hc)
theorem e_getI {i a o' i' ci k : Nat} {b : Bool} (hd : decode (q_cc M) pc = .ok (.getfield i, 3)) (hl : q_lF (q_o M) i = some (o', i', ci, k, b)) (hr : p_isR ci k = false) (hk : mK μ a = ci) (hn : a < mN μ) (K : p_Ev X d M (pc + 3) lo (.int (mI μ a k) :: st) μ Q) : p_Ev X d M pc lo (.ref a :: st) μ Q := by
  refine e_x hd (q := (pc + 3, lo, .int (mI μ a k) :: st, μ)) ?_ K
  show p_getf M i pc lo (.ref a :: st) μ = _
  unfold p_getf
  simp only [hl]
  rw [if_pos ⟨hk, hn⟩, if_neg (by rw [hr]; decide)]
theorem e_getR {i a o' i' ci k v : Nat} {b : Bool} (hd : decode (q_cc M) pc = .ok (.getfield i, 3)) (hl : q_lF (q_o M) i = some (o', i', ci, k, b)) (hr : p_isR ci k = true) (hk : mK μ a = ci) (hn : a < mN μ) (hv : mR μ a k = some v) (K : p_Ev X d M (pc + 3) lo (.ref v :: st) μ Q) : p_Ev X d M pc lo (.ref a :: st) μ Q := by
  refine e_x hd (q := (pc + 3, lo, .ref v :: st, μ)) ?_ K
  show p_getf M i pc lo (.ref a :: st) μ = _
  unfold p_getf
  simp only [hl]
  rw [if_pos ⟨hk, hn⟩, if_pos hr, hv]
  rfl
theorem e_putI {i a o' i' ci k : Nat} {x : Int32} {b : Bool} (hd : decode (q_cc M) pc = .ok (.putfield i, 3)) (hl : q_lF (q_o M) i = some (o', i', ci, k, b)) (hr : p_isR ci k = false ∧ p_may M ci k = true ∧ (b = true → (q_T ci k).2.2.2 = false)) (hz : p_isZ ci k = true → x = 0 ∨ x = 1) (hk : mK μ a = ci) (hn : a < mN μ) (K : p_Ev X d M (pc + 3) lo st (sI μ a k x) Q) : p_Ev X d M pc lo (.int x :: .ref a :: st) μ Q := by
  refine e_x hd (q := (pc + 3, lo, st, sI μ a k x)) ?_ K
  show p_putf M i pc lo (.int x :: .ref a :: st) μ = _
  unfold p_putf
  simp only [hl]
  rw [if_pos ⟨hk, hn, hr.1, hz, hr.2.1, hr.2.2⟩]
theorem e_iald {a n : Nat} {i : Int32} (hd : decode (q_cc M) pc = .ok (.iaload, 1)) (ha : a < p_E) (hk : mK μ a = 20) (hL : mL μ a = n) (hn : a < mN μ) (hc : ¬ i < 0 ∧ i.toNatClampNeg < n) (K : p_Ev X d M (pc + 1) lo (.int (mI μ a i.toNatClampNeg) :: st) μ Q) : p_Ev X d M pc lo (.int i :: .ref a :: st) μ Q := by
  refine e_x hd (q := (pc + 1, lo, .int (mI μ a i.toNatClampNeg) :: st, μ)) ?_ K
  show p_iald X 20 pc lo (.int i :: .ref a :: st) μ = _
  unfold p_iald
  dsimp only
  rw [if_neg (Nat.not_le.mpr ha), if_pos ⟨hk, hc.1, by rw [hL]; exact hc.2, hn⟩]
theorem e_bald {a n : Nat} {i : Int32} (hd : decode (q_cc M) pc = .ok (.baload, 1)) (ha : a < p_E) (hk : mK μ a = 21) (hL : mL μ a = n) (hn : a < mN μ) (hc : ¬ i < 0 ∧ i.toNatClampNeg < n) (K : p_Ev X d M (pc + 1) lo (.int (mI μ a i.toNatClampNeg) :: st) μ Q) : p_Ev X d M pc lo (.int i :: .ref a :: st) μ Q := by
  refine e_x hd (q := (pc + 1, lo, .int (mI μ a i.toNatClampNeg) :: st, μ)) ?_ K
  show p_iald X 21 pc lo (.int i :: .ref a :: st) μ = _
  unfold p_iald
  dsimp only
  rw [if_neg (Nat.not_le.mpr ha), if_pos ⟨hk, hc.1, by rw [hL]; exact hc.2, hn⟩]
theorem e_iast {a n : Nat} {i x : Int32} (hd : decode (q_cc M) pc = .ok (.iastore, 1)) (hk : mK μ a = 20) (hL : mL μ a = n) (hn : a < mN μ) (hc : ¬ i < 0 ∧ i.toNatClampNeg < n) (K : p_Ev X d M (pc + 1) lo st (sI μ a i.toNatClampNeg x) Q) : p_Ev X d M pc lo (.int x :: .int i :: .ref a :: st) μ Q := by
  refine e_x hd (q := (pc + 1, lo, st, sI μ a i.toNatClampNeg x)) ?_ K
  show p_iast 20 pc lo (.int x :: .int i :: .ref a :: st) μ = _
  unfold p_iast
  dsimp only
  rw [if_pos ⟨hk, hc.1, by rw [hL]; exact hc.2, hn⟩, if_neg (by decide)]
theorem e_bast {a n : Nat} {i x : Int32} (hd : decode (q_cc M) pc = .ok (.bastore, 1)) (hk : mK μ a = 21) (hL : mL μ a = n) (hn : a < mN μ) (hc : ¬ i < 0 ∧ i.toNatClampNeg < n) (K : p_Ev X d M (pc + 1) lo st (sI μ a i.toNatClampNeg x.toInt8.toInt32) Q) : p_Ev X d M pc lo (.int x :: .int i :: .ref a :: st) μ Q := by
  refine e_x hd (q := (pc + 1, lo, st, sI μ a i.toNatClampNeg x.toInt8.toInt32)) ?_ K
  show p_iast 21 pc lo (.int x :: .int i :: .ref a :: st) μ = _
  unfold p_iast
  dsimp only
  rw [if_pos ⟨hk, hc.1, by rw [hL]; exact hc.2, hn⟩, if_pos rfl]
theorem e_ireti {x : Int32} (hd : decode (q_cc M) pc = .ok (.ireturn, 1)) (hr : q_rt M = some .int) (hQ : Q ((0, some (.int x)), μ)) : p_Ev X d M pc lo [.int x] μ Q := e_r hd rfl rfl (by unfold p_ret; simp only [hr, if_pos]) hQ
theorem e_iretz {x : Int32} (hd : decode (q_cc M) pc = .ok (.ireturn, 1)) (hr : q_rt M = some .boolean) (hx : x = 0 ∨ x = 1) (hQ : Q ((0, some (.int x)), μ)) : p_Ev X d M pc lo [.int x] μ Q := e_r hd rfl rfl (by unfold p_ret; simp only [hr, if_pos, hx]) hQ
theorem e_vret (hd : decode (q_cc M) pc = .ok (.return_, 1)) (hr : q_rt M = none) (hQ : Q ((0, none), μ)) : p_Ev X d M pc lo [] μ Q := e_r hd rfl rfl (by unfold p_ret; rw [if_pos ⟨rfl, rfl, hr⟩]) hQ
theorem e_max {k : Nat} {x y : Int32} (hd : decode (q_cc M) pc = .ok (.invokestatic k, 3)) (hl : q_lP (q_o M) k = some 1) (hs : p_cat st ≤ 8) (K : p_Ev X d M (pc + 3) lo (.int (if x < y then y else x) :: st) μ Q) : p_Ev X d M pc lo (.int y :: .int x :: st) μ Q :=
  e_pr (kk := 1) (as := [.int x, .int y]) (rest := st) hd rfl rfl rfl rfl (by unfold p_callP; rw [if_pos rfl]; simp only [hl]; unfold p_pop; rw [if_pos ⟨by simp, hs, rfl⟩]; rfl) rfl K
theorem e_min {k : Nat} {x y : Int32} (hd : decode (q_cc M) pc = .ok (.invokestatic k, 3)) (hl : q_lP (q_o M) k = some 2) (hs : p_cat st ≤ 8) (K : p_Ev X d M (pc + 3) lo (.int (if y < x then y else x) :: st) μ Q) : p_Ev X d M pc lo (.int y :: .int x :: st) μ Q :=
  e_pr (kk := 2) (as := [.int x, .int y]) (rest := st) hd rfl rfl rfl rfl (by unfold p_callP; rw [if_pos rfl]; simp only [hl]; unfold p_pop; rw [if_pos ⟨by simp, hs, rfl⟩]; rfl) rfl K
theorem e_fm {k : Nat} {x y : Int32} (hd : decode (q_cc M) pc = .ok (.invokestatic k, 3)) (hl : q_lP (q_o M) k = some 3) (hs : p_cat st ≤ 8) (hy : ¬ y = 0) (K : p_Ev X d M (pc + 3) lo (.int (p_fm x y) :: st) μ Q) : p_Ev X d M pc lo (.int y :: .int x :: st) μ Q :=
  e_pr (kk := 3) (as := [.int x, .int y]) (rest := st) (v := some (.int (p_fm x y))) (μ1 := μ) hd rfl rfl rfl rfl (by unfold p_callP; rw [if_pos rfl]; simp only [hl]; unfold p_pop; rw [if_pos ⟨by simp, hs, rfl⟩]; rfl) (by show (if y = 0 then none else _) = _; rw [if_neg hy]) K
/-- a call of a method that returns -/
theorem e_cS {k : Nat} {f : q_L} {as rest : List Value} (hd : decode (q_cc M) pc = .ok (.invokestatic k, 3)) (hP : q_lP (q_o M) k = none) (hl : q_lM (q_o M) k = some f) (hk : f.2.2.1 = 1) (hp : p_pop (q_na f.2.2.2.2) st = some (as, rest)) (K : p_Ev X d f.2.2.2.2 0 (p_loc f.2.2.2.2 as) [] μ (fun r => r.1.1 = 0 ∧ p_Ev X (d + 1) M (pc + 3) lo (r.1.2.toList ++ rest) r.2 Q)) : p_Ev X (d + 1) M pc lo st μ Q := by
  refine e_c (f := f) (as := as) (rest := rest) hd rfl rfl rfl rfl ?_ ?_ (Or.inl hk) ?_
  · unfold p_callP; rw [if_pos rfl]; simp only [hP]
  · unfold p_call; rw [if_pos rfl]; simp only [hl]; rw [if_pos hk, hp]; rfl
  · obtain ⟨n, r, h1, h2⟩ := K
    exact ⟨n, r, h1, Or.inl h2⟩
theorem e_cV {k a : Nat} {f : q_L} {as rest : List Value} (hd : decode (q_cc M) pc = .ok (.invokevirtual k, 3)) (hP : q_lP (q_o M) k = none) (hl : q_lM (q_o M) k = some f) (hk : f.2.2.1 = 0 ∧ q_hh f.2.2.2.2 = [] ∧ q_o f.2.2.2.2 < 15) (hp : p_pop (q_na f.2.2.2.2) st = some (.ref a :: as, rest)) (ha : mK μ a = q_o f.2.2.2.2) (hn : a < mN μ) (K : p_Ev X d f.2.2.2.2 0 (p_loc f.2.2.2.2 (.ref a :: as)) [] μ (fun r => r.1.1 = 0 ∧ p_Ev X (d + 1) M (pc + 3) lo (r.1.2.toList ++ rest) r.2 Q)) : p_Ev X (d + 1) M pc lo st μ Q := by
  refine e_c (f := f) (as := .ref a :: as) (rest := rest) hd rfl rfl rfl rfl ?_ ?_ (Or.inr hk.2.1) ?_
  · unfold p_callP; rw [if_pos rfl]; simp only [hP]
  · unfold p_call; rw [if_pos rfl]; simp only [hl]; rw [if_pos hk.1, hp]; dsimp only; rw [if_pos ⟨hn, ha, hk.2.2⟩]
  · obtain ⟨n, r, h1, h2⟩ := K
    exact ⟨n, r, h1, Or.inl h2⟩
end EW
