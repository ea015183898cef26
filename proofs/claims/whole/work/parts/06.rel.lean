/-! what the pure machine's things are on the heap -/
def q_tbl : List Cond := lw_tbl.filter goodWord
theorem q_tbl_in {w : Cond} (h : w ∈ lw_tbl) (g : goodWord w = true) : w ∈ q_tbl := List.mem_filter.mpr ⟨h, g⟩
/-- the address of a pure cell, or of an outer thing -/
def q_a (xa : Nat → Nat) (ad : List Nat) (i : Nat) : Option Nat := if i < p_E then ad[i]? else some (xa (i - p_E))
theorem q_a_mono {xa : Nat → Nat} {ad ad' : List Nat} {i a : Nat} (hp : ad <+: ad') (h : q_a xa ad i = some a) : q_a xa ad' i = some a := by
  obtain ⟨l, rfl⟩ := hp
  unfold q_a at h ⊢
  split at h
  · rename_i hi
    rw [if_pos hi, List.getElem?_append_left ((List.getElem?_eq_some_iff.mp h).1)]
    exact h
  · rename_i hi
    rw [if_neg hi]
    exact h
def q_ref (xa : Nat → Nat) (ad : List Nat) (r g : Option Nat) : Prop := match r with
  | none => g = none
  | some i => ∃ a, q_a xa ad i = some a ∧ g = some a
theorem q_ref_mono {xa : Nat → Nat} {ad ad' : List Nat} {r g : Option Nat} (hp : ad <+: ad') (h : q_ref xa ad r g) : q_ref xa ad' r g := by
  cases r with
  | none => exact h
  | some i => obtain ⟨a, h1, h2⟩ := h; exact ⟨a, q_a_mono hp h1, h2⟩
def q_v (xa : Nat → Nat) (ad : List Nat) (p v : Value) : Prop := match p with
  | .int x => v = .int x
  | .long x => v = .long x
  | .null => v = .null
  | .ref i => ∃ a, q_a xa ad i = some a ∧ v = .ref a
  | .retAddr _ => ∃ a, v = .ref a
  | _ => False
theorem q_v_mono {xa : Nat → Nat} {ad ad' : List Nat} {p v : Value} (hp : ad <+: ad') (h : q_v xa ad p v) : q_v xa ad' p v := by
  cases p with
  | ref i => obtain ⟨a, h1, h2⟩ := h; exact ⟨a, q_a_mono hp h1, h2⟩
  | _ => exact h
theorem q_v_rf {xa : Nat → Nat} {ad : List Nat} {r g : Option Nat} (h : q_ref xa ad r g) : q_v xa ad (va_rf r) (va_rf g) := by
  cases r with
  | none => have h : g = none := h; subst h; rfl
  | some i => obtain ⟨a, h1, h2⟩ := h; subst h2; exact ⟨a, h1, rfl⟩
theorem q_v_cat {xa : Nat → Nat} {ad : List Nat} {p v : Value} (h : q_v xa ad p v) : v.category = p.category := by
  cases p with
  | int x => have h : v = .int x := h; subst h; rfl
  | long x => have h : v = .long x := h; subst h; rfl
  | null => have h : v = .null := h; subst h; rfl
  | ref i => obtain ⟨a, h1, h2⟩ := h; subst h2; rfl
  | retAddr i => obtain ⟨a, h2⟩ := h; subst h2; rfl
  | float i => exact h.elim
  | double i => exact h.elim
/-- the operand stack -/
def q_st (xa : Nat → Nat) (ad : List Nat) : List Value → List Value → Prop
  | [], sa => sa = []
  | p :: t, sa => ∃ v r, sa = v :: r ∧ q_v xa ad p v ∧ q_st xa ad t r
theorem q_st_mono {xa : Nat → Nat} {ad ad' : List Nat} (hp : ad <+: ad') : ∀ {st sa : List Value}, q_st xa ad st sa → q_st xa ad' st sa
  | [], _, h => h
  | _ :: _, _, h => by
    obtain ⟨v, r, h1, h2, h3⟩ := h
    exact ⟨v, r, h1, q_v_mono hp h2, q_st_mono hp h3⟩
theorem q_st_cat {xa : Nat → Nat} {ad : List Nat} : ∀ {st sa : List Value}, q_st xa ad st sa → (sa.map fun v => v.category).sum = p_cat st
  | [], _, h => by have h : _ = _ := h; subst h; rfl
  | p :: t, _, h => by
    obtain ⟨v, r, h1, h2, h3⟩ := h
    subst h1
    have ih := q_st_cat h3
    unfold p_cat at ih ⊢
    simp only [List.map_cons, List.sum_cons, ih, q_v_cat h2]
/-- the locals -/
def q_lo (xa : Nat → Nat) (ad : List Nat) (nL : Nat) (lo : List Value) (ls : Array Slot) : Prop :=
  ∃ lv, lv_has ls nL lv ∧ lo.length = nL ∧ ∀ (j : Nat) (p : Value), lo[j]? = some p → p = .double 0 ∨ ∃ v, q_v xa ad p v ∧ v.category = 1 ∧ (j, v) ∈ lv
theorem q_lo_mono {xa : Nat → Nat} {ad ad' : List Nat} (hp : ad <+: ad') {nL : Nat} {lo : List Value} {ls : Array Slot} (h : q_lo xa ad nL lo ls) : q_lo xa ad' nL lo ls := by
  obtain ⟨lv, h1, h2, h3⟩ := h
  refine ⟨lv, h1, h2, fun j p hj => ?_⟩
  rcases h3 j p hj with h | ⟨v, h4, h5, h6⟩
  · exact Or.inl h
  · exact Or.inr ⟨v, q_v_mono hp h4, h5, h6⟩
theorem q_lo_at {xa : Nat → Nat} {ad : List Nat} {nL : Nat} {lo : List Value} {ls : Array Slot} (h : q_lo xa ad nL lo ls) {j : Nat} {p : Value} (hj : lo[j]? = some p) (hd : p ≠ .double 0) : ∃ v, q_v xa ad p v ∧ ls[j]? = some (.val v) := by
  obtain ⟨lv, h1, h2, h3⟩ := h
  rcases h3 j p hj with h | ⟨v, h4, h5, h6⟩
  · exact absurd h hd
  · exact ⟨v, h4, h1.2.2 (j, v) h6⟩
/-- a store of a value of one slot -/
theorem q_lo_set {xa : Nat → Nat} {ad : List Nat} {nL : Nat} {lo : List Value} {lv : List (Nat × Value)} {i : Nat} {p v : Value} (h2 : lo.length = nL) (h3 : ∀ (j : Nat) (p : Value), lo[j]? = some p → p = .double 0 ∨ ∃ v, q_v xa ad p v ∧ v.category = 1 ∧ (j, v) ∈ lv)
    (hv : q_v xa ad p v) (hc : v.category = 1) {ls' : Array Slot} (hl : lv_has ls' nL ((i, v) :: lv.filter (fun q => !(q.1 == i) && !(q.1 + 1 == i && q.2.category == 2)))) : q_lo xa ad nL (lo.set i p) ls' := by
  refine ⟨_, hl, by simpa using h2, fun j p' hj => ?_⟩
  by_cases e : i = j
  · subst e
    rw [List.getElem?_set_self'] at hj
    cases hlo : lo[i]? with
    | none => rw [hlo] at hj; cases hj
    | some z =>
      rw [hlo] at hj
      cases hj
      exact Or.inr ⟨v, hv, hc, List.mem_cons_self⟩
  · rw [List.getElem?_set_ne e] at hj
    rcases h3 j p' hj with h | ⟨w, h4, h5, h6⟩
    · exact Or.inl h
    · refine Or.inr ⟨w, h4, h5, List.mem_cons_of_mem _ (List.mem_filter.mpr ⟨h6, ?_⟩)⟩
      have e' : ¬ j = i := fun q => e q.symm
      simp [e', h5]
/-- what an array of a kind holds -/
def q_ty (k : Nat) : FieldType := match k with
  | 20 => .int
  | 21 => .byte
  | 22 => .long
  | 23 => .object (q_on 4)
  | 24 => .object (q_on 6)
  | 25 => .object "java/lang/Object"
  | _ => .array .int
def q_row (xa : Nat → Nat) (ad : List Nat) (μ : p_M) (i : Nat) (x : (Nat → Int32) ⊕ (Nat → Int64) ⊕ (Nat → UInt32) ⊕ (Nat → UInt64) ⊕ (Nat → Option Nat)) : Prop := match x with
  | .inl f => (mK μ i = 20 ∨ mK μ i = 21) ∧ f = mI μ i
  | .inr (.inl f) => mK μ i = 22 ∧ f = mJ μ i
  | .inr (.inr (.inr (.inr g))) => 23 ≤ mK μ i ∧ ∀ j, q_ref xa ad (mR μ i j) (g j)
  | _ => False
def q_fld (xa : Nat → Nat) (ad : List Nat) (μ : p_M) (i ci k : Nat) (v : Value) : Prop := if p_isR ci k = true then ∃ g, q_ref xa ad (mR μ i k) g ∧ v = va_rf g else v = .int (mI μ i k)
/-- the cell i -/
def q_cell (U : State) (xa : Nat → Nat) (ad : List Nat) (μ : p_M) (i : Nat) (e : va_E) : Prop := match e with
  | .inr o => mK μ i = o.1 ∧ o.1 < 15 ∧ o.2.length = q_N o.1 ∧ ∀ k, k < q_N o.1 → ∃ v, o.2[k]? = some v ∧ q_fld xa ad μ i o.1 k v
  | .inl a => (20 ≤ mK μ i ∧ mK μ i ≤ 26) ∧ (ArrOfT U a.1 (q_ty (mK μ i)) ∧ va_RA U a.1 (q_ty (mK μ i))) ∧ a.2.1 = mL μ i ∧ q_row xa ad μ i a.2.2
theorem q_cell_mono {U : State} {xa : Nat → Nat} {ad ad' : List Nat} (hp : ad <+: ad') {μ : p_M} {i : Nat} {e : va_E} (h : q_cell U xa ad μ i e) : q_cell U xa ad' μ i e := by
  cases e with
  | inr o =>
    obtain ⟨h1, h2, h3, h4⟩ := h
    refine ⟨h1, h2, h3, fun k hk => ?_⟩
    obtain ⟨v, h5, h6⟩ := h4 k hk
    refine ⟨v, h5, ?_⟩
    unfold q_fld at h6 ⊢
    split at h6
    · rename_i hz
      rw [if_pos hz]
      obtain ⟨g, h7, h8⟩ := h6
      exact ⟨g, q_ref_mono hp h7, h8⟩
    · rename_i hz
      rw [if_neg hz]
      exact h6
  | inl a =>
    obtain ⟨h1, h2, h3, h4⟩ := h
    refine ⟨h1, h2, h3, ?_⟩
    obtain ⟨cA, n, x⟩ := a
    match x, h4 with
    | .inl f, h4 => exact h4
    | .inr (.inl f), h4 => exact h4
    | .inr (.inr (.inr (.inr g))), h4 => exact ⟨h4.1, fun j => q_ref_mono hp (h4.2 j)⟩
/-- a cell that the memory's change doesn't touch -/
theorem q_cell_same {U : State} {xa : Nat → Nat} {ad : List Nat} {μ μ' : p_M} {i : Nat} {e : va_E} (hI : mI μ' i = mI μ i) (hR : mR μ' i = mR μ i) (hJ : mJ μ' i = mJ μ i) (hk : mK μ' i = mK μ i) (hl : mL μ' i = mL μ i) (h : q_cell U xa ad μ i e) : q_cell U xa ad μ' i e := by
  cases e with
  | inr o =>
    obtain ⟨h1, h2, h3, h4⟩ := h
    refine ⟨hk.trans h1, h2, h3, fun k hk => ?_⟩
    obtain ⟨v, h5, h6⟩ := h4 k hk
    refine ⟨v, h5, ?_⟩
    unfold q_fld at h6 ⊢
    rw [hI, hR]
    exact h6
  | inl a =>
    obtain ⟨h1, h2, h3, h4⟩ := h
    refine ⟨by rw [hk]; exact h1, by rw [hk]; exact h2, h3.trans hl.symm, ?_⟩
    obtain ⟨cA, n, x⟩ := a
    match x, h4 with
    | .inl f, h4 => exact ⟨by rw [hk]; exact h4.1, h4.2.trans hI.symm⟩
    | .inr (.inl f), h4 => exact ⟨by rw [hk]; exact h4.1, h4.2.trans hJ.symm⟩
    | .inr (.inr (.inr (.inr g))), h4 => exact ⟨by rw [hk]; exact h4.1, fun j => by rw [hR]; exact h4.2 j⟩
theorem q_cell_moved {u U : State} (hvm : u.vm.Alike U.vm) {xa : Nat → Nat} {ad : List Nat} {μ : p_M} {i : Nat} {e : va_E} (h : q_cell u xa ad μ i e) : q_cell U xa ad μ i e := by
  cases e with
  | inr o => exact h
  | inl a => exact ⟨h.1, ⟨arrOfT_moved hvm h.2.1.1, va_RA.moved hvm h.2.1.2⟩, h.2.2⟩
/-- the world -/
def q_Ws (U : State) (H : Heap) (A : Nat → Prop) (D : va_G) (xa : Nat → Nat) (ad : List Nat) (μ : p_M) (ws : va_W) : Prop :=
  va_P D vwCl ws H ∧ va_D A ws ∧ ws.length = mN μ ∧ ad.length = mN μ ∧ mN μ ≤ mC μ ∧ mN μ < p_E ∧ ∀ (i a : Nat) (e : va_E), ws[i]? = some (a, e) → ad[i]? = some a ∧ q_cell U xa ad μ i e
def q_W (U : State) (H : Heap) (A : Nat → Prop) (D : va_G) (xa : Nat → Nat) (ad : List Nat) (μ : p_M) : Prop := ∃ ws, q_Ws U H A D xa ad μ ws
theorem q_W_moved {u U : State} (hvm : u.vm.Alike U.vm) {H : Heap} {A : Nat → Prop} {D : va_G} {xa : Nat → Nat} {ad : List Nat} {μ : p_M} (h : q_W u H A D xa ad μ) : q_W U H A D xa ad μ := by
  obtain ⟨ws, h1, h2, h3, h4, h5, h6, h7⟩ := h
  exact ⟨ws, h1, h2, h3, h4, h5, h6, fun i a e hi => ⟨(h7 i a e hi).1, q_cell_moved hvm (h7 i a e hi).2⟩⟩
/-- the thing at a reference -/
theorem q_Ws_at {U : State} {H : Heap} {A : Nat → Prop} {D : va_G} {xa : Nat → Nat} {ad : List Nat} {μ : p_M} {ws : va_W} (h : q_Ws U H A D xa ad μ ws) {a b : Nat} (ha : a < mN μ) (hb : q_a xa ad a = some b) : ∃ e, ws[a]? = some (b, e) ∧ q_cell U xa ad μ a e := by
  obtain ⟨h1, h2, h3, h4, h5, h6, h7⟩ := h
  have hl : a < ws.length := by omega
  have hg : ws[a]? = some ws[a] := List.getElem?_eq_getElem hl
  obtain ⟨z1, z2⟩ := h7 a ws[a].1 ws[a].2 hg
  have hb2 : ad[a]? = some b := by
    unfold q_a at hb
    rw [if_pos (by omega)] at hb
    exact hb
  have e1 : ws[a].1 = b := Option.some.inj (z1.symm.trans hb2)
  refine ⟨ws[a].2, ?_, z2⟩
  rw [hg, ← e1]
/-- a write into one cell -/
theorem q_Ws_set {U : State} {H H1 : Heap} {A : Nat → Prop} {D : va_G} {xa : Nat → Nat} {ad : List Nat} {μ μ' : p_M} {ws : va_W} (h : q_Ws U H A D xa ad μ ws) {a b : Nat} {e0 e : va_E} (h0 : ws[a]? = some (b, e0)) (hP : va_P D vwCl (ws.set a (b, e)) H1) (hD : va_D A (ws.set a (b, e)))
    (hN : mN μ' = mN μ) (hC : mC μ' = mC μ) (ho : ∀ i, i ≠ a → mI μ' i = mI μ i ∧ mR μ' i = mR μ i ∧ mJ μ' i = mJ μ i ∧ mK μ' i = mK μ i ∧ mL μ' i = mL μ i) (hc : q_cell U xa ad μ' a e) : q_W U H1 A D xa ad μ' := by
  obtain ⟨h1, h2, h3, h4, h5, h6, h7⟩ := h
  have hl : a < ws.length := (List.getElem?_eq_some_iff.mp h0).1
  refine ⟨ws.set a (b, e), hP, hD, by rw [List.length_set, hN]; exact h3, by rw [hN]; exact h4, by rw [hN, hC]; exact h5, by rw [hN]; exact h6, fun i x y hi => ?_⟩
  by_cases ei : i = a
  · subst ei
    rw [List.getElem?_set_self hl] at hi
    cases hi
    exact ⟨(h7 i b e0 h0).1, hc⟩
  · rw [List.getElem?_set_ne (Ne.symm ei)] at hi
    obtain ⟨g1, g2⟩ := h7 i x y hi
    obtain ⟨o1, o2, o3, o4, o5⟩ := ho i ei
    exact ⟨g1, q_cell_same o1 o2 o3 o4 o5 g2⟩
/-- a new cell -/
theorem q_Ws_push {U : State} {H H1 : Heap} {A : Nat → Prop} {D : va_G} {xa : Nat → Nat} {ad : List Nat} {μ μ' : p_M} {ws : va_W} (h : q_Ws U H A D xa ad μ ws) {b : Nat} {e : va_E} (hP : va_P D vwCl (ws ++ [(b, e)]) H1) (hD : va_D A (ws ++ [(b, e)]))
    (hN : mN μ' = mN μ + 1) (hC : mC μ' = mC μ + 1) (hE : mN μ + 1 < p_E) (ho : ∀ i, i ≠ mN μ → mI μ' i = mI μ i ∧ mR μ' i = mR μ i ∧ mJ μ' i = mJ μ i ∧ mK μ' i = mK μ i ∧ mL μ' i = mL μ i) (hc : q_cell U xa (ad ++ [b]) μ' (mN μ) e) : q_Ws U H1 A D xa (ad ++ [b]) μ' (ws ++ [(b, e)]) := by
  obtain ⟨h1, h2, h3, h4, h5, h6, h7⟩ := h
  refine ⟨hP, hD, by simp [h3, hN], by simp [h4, hN], by omega, by omega, fun i x y hi => ?_⟩
  by_cases hl : i < ws.length
  · rw [List.getElem?_append_left hl] at hi
    obtain ⟨g1, g2⟩ := h7 i x y hi
    obtain ⟨o1, o2, o3, o4, o5⟩ := ho i (by omega)
    exact ⟨by rw [List.getElem?_append_left (by omega)]; exact g1, q_cell_mono (List.prefix_append _ _) (q_cell_same o1 o2 o3 o4 o5 g2)⟩
  · rw [List.getElem?_append_right (by omega)] at hi
    have hz : i - ws.length < 1 := (List.getElem?_eq_some_iff.mp hi).1
    have hi0 : i = mN μ := by omega
    subst hi0
    rw [h3, Nat.sub_self] at hi
    cases hi
    exact ⟨by rw [List.getElem?_append_right (by omega), h4, Nat.sub_self]; rfl, hc⟩
