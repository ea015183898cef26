/-! from the caller's state to the callee's -/
theorem q_AOA_moved {u U : State} (hvm : u.vm.Alike U.vm) (h : va_AOA .int u) : va_AOA .int U := by
  have h1 : (Cond.arrayOver (.array .int)).before #[] (u.setVm U.vm) = true := (Cond.arrayOver_setVmC (args := #[]) hvm (.array .int)).trans h
  exact h1
theorem q_G_moved {X : p_X} {xa : Nat → Nat} {A : Nat → Prop} {s U : State} (hW : s.WarmedH U.vm) (hk : ∀ a : Nat, a < s.heap.size → ¬ A a → U.heap[a]? = s.heap[a]?) (h : q_G X xa A s) : q_G X xa A U := by
  have hvm := hW.alike
  obtain ⟨h1, h2, h3, h4, h5, h6, h7, h8⟩ := h
  refine ⟨fun w hw hn => ?_, fun k hk3 => ?_, ⟨(h3.1.kept hk).moved hvm, (h3.2.kept hk).moved hvm⟩, fun o i v hv => vk_R.warm hW (h4 o i v hv), ⟨h5.1.moved hvm, h5.2.1.moved hvm, h5.2.2.1.moved hvm, q_AOA_moved hvm h5.2.2.2⟩, ⟨(h6.1.kept hk).moved hvm, (h6.2.kept hk).moved hvm⟩, fun E F e1 e2 e3 e4 e5 => va_Nc.moved hvm (h7 E F e1 e2 e3 e4 e5), h8⟩
  · have hz := h1 w hw hn
    unfold q_nw at hn
    split at hn
    · exact va_Nw.warmF hW hz
    · exact va_Nw.warmM hW hz
    · exact va_Nw.warmC hW hz
    · exact va_Nw.warmD hW hz
    · cases hn
  · obtain ⟨cell, g1, g2, g3, g4, g5, g6, g7⟩ := h2 k hk3
    exact ⟨cell, (hk _ (Array.getElem?_eq_some_iff.mp g1).1 g7).trans g1, State.isArrayOf_alike hvm g2, g3, g4, g5, g6, g7⟩
/-- a list of values beside a list of pure ones -/
theorem q_st_app {xa : Nat → Nat} {ad : List Nat} : ∀ {l1 l2 sa : List Value}, q_st xa ad (l1 ++ l2) sa → ∃ a1 a2, sa = a1 ++ a2 ∧ q_st xa ad l1 a1 ∧ q_st xa ad l2 a2
  | [], _, sa, h => ⟨[], sa, rfl, rfl, h⟩
  | _ :: _, _, _, h => by
    obtain ⟨v, r, h1, h2, h3⟩ := h
    obtain ⟨a1, a2, e1, g1, g2⟩ := q_st_app h3
    exact ⟨v :: a1, a2, by rw [h1, e1]; rfl, ⟨v, a1, rfl, h2, g1⟩, g2⟩
theorem q_st_join {xa : Nat → Nat} {ad : List Nat} : ∀ {l1 l2 a1 a2 : List Value}, q_st xa ad l1 a1 → q_st xa ad l2 a2 → q_st xa ad (l1 ++ l2) (a1 ++ a2)
  | [], _, _, _, h1, h2 => by have h1 : _ = _ := h1; subst h1; exact h2
  | _ :: _, _, _, _, h1, h2 => by
    obtain ⟨v, r, e1, g1, g2⟩ := h1
    subst e1
    exact ⟨v, _, rfl, g1, q_st_join g2 h2⟩
theorem q_st_rev {xa : Nat → Nat} {ad : List Nat} : ∀ {l a : List Value}, q_st xa ad l a → q_st xa ad l.reverse a.reverse
  | [], _, h => by have h : _ = _ := h; subst h; rfl
  | _ :: _, _, h => by
    obtain ⟨v, r, e1, g1, g2⟩ := h
    subst e1
    rw [List.reverse_cons, List.reverse_cons]
    exact q_st_join (q_st_rev g2) ⟨v, [], rfl, g1, rfl⟩
theorem q_st_len {xa : Nat → Nat} {ad : List Nat} : ∀ {l a : List Value}, q_st xa ad l a → a.length = l.length
  | [], _, h => by have h : _ = _ := h; subst h; rfl
  | _ :: _, _, h => by
    obtain ⟨v, r, e1, g1, g2⟩ := h
    subst e1
    simp [q_st_len g2]
theorem q_st_get {xa : Nat → Nat} {ad : List Nat} : ∀ {l a : List Value}, q_st xa ad l a → ∀ (j : Nat) (pv : Value), l[j]? = some pv → ∃ v, a[j]? = some v ∧ q_v xa ad pv v
  | [], _, _, j, pv, hj => by simp at hj
  | _ :: _, _, h, 0, pv, hj => by
    obtain ⟨v, r, e1, g1, g2⟩ := h
    subst e1
    cases hj
    exact ⟨v, rfl, g1⟩
  | _ :: _, _, h, j + 1, pv, hj => by
    obtain ⟨v, r, e1, g1, g2⟩ := h
    subst e1
    exact q_st_get g2 j pv hj
/-- the arguments that a call takes -/
theorem q_pop {xa : Nat → Nat} {ad : List Nat} {n : Nat} {st sa as rest : List Value} (hp : p_pop n st = some (as, rest)) (h : q_st xa ad st sa) : ∃ aA rA, sa = aA.reverse ++ rA ∧ q_st xa ad as aA ∧ q_st xa ad rest rA ∧ as.length = n ∧ (rA.map fun v => v.category).sum ≤ 8 ∧ ∀ v ∈ as, v.category = 1 := by
  unfold p_pop at hp
  split at hp
  · rename_i hz
    obtain ⟨z1, z2, z3⟩ := hz
    cases hp
    rw [← List.take_append_drop n st] at h
    obtain ⟨a1, a2, e1, g1, g2⟩ := q_st_app h
    refine ⟨a1.reverse, a2, by rw [List.reverse_reverse]; exact e1, q_st_rev g1, g2, by simp; omega, by rw [q_st_cat g2]; exact z2, fun v hv => ?_⟩
    have := List.all_eq_true.mp z3 v (List.mem_reverse.mp hv)
    simpa using this
  · cases hp
theorem q_sl {vs : List Value} (h : ∀ v ∈ vs, v.category = 1) : (lg_sl vs).length = vs.length := by
  induction vs with
  | nil => rfl
  | cons v t ih =>
    have h1 : ¬ v.category = 2 := by rw [h v List.mem_cons_self]; decide
    have ih' := ih (fun w hw => h w (List.mem_cons_of_mem _ hw))
    unfold lg_sl at ih' ⊢
    rw [List.flatMap_cons, if_neg h1]
    simp [ih']
theorem q_args_at {vs : List Value} : ∀ (k : Nat), (∀ v ∈ vs, v.category = 1) → ∀ (j : Nat) (v : Value), vs[j]? = some v → (k + j, v) ∈ lv_args k vs := by
  induction vs with
  | nil => intro k _ j v hj; simp at hj
  | cons w t ih =>
    intro k h j v hj
    have h1 : ¬ w.category = 2 := by rw [h w List.mem_cons_self]; decide
    cases j with
    | zero => cases hj; exact List.mem_cons_self
    | succ j =>
      have := ih (k + 1) (fun w hw => h w (List.mem_cons_of_mem _ hw)) j v hj
      unfold lv_args
      rw [if_neg h1]
      refine List.mem_cons_of_mem _ ?_
      rw [show k + (j + 1) = k + 1 + j by omega]
      exact this
/-- the locals with which a callee begins -/
theorem q_lo_entry {xa : Nat → Nat} {ad : List Nat} {M : q_M} {as aA : List Value} (h : q_st xa ad as aA) (hc : ∀ v ∈ as, v.category = 1) (hl : as.length ≤ q_ml M) : q_lo xa ad (q_ml M) (p_loc M as) ((lg_sl aA ++ List.replicate (q_ml M - (lg_sl aA).length) Slot.unset).toArray) := by
  have hcA : ∀ v ∈ aA, v.category = 1 := by
    intro v hv
    obtain ⟨j, hj⟩ := List.getElem?_of_mem hv
    have hjl : j < as.length := by
      have := (List.getElem?_eq_some_iff.mp hj).1
      rw [q_st_len h] at this
      exact this
    obtain ⟨w, w1, w2⟩ := q_st_get h j as[j] (List.getElem?_eq_getElem hjl)
    cases Option.some.inj (hj.symm.trans w1)
    rw [q_v_cat w2]
    exact hc _ (List.getElem_mem hjl)
  refine ⟨lv_args 0 aA, lv_entry aA (by rw [q_sl hcA, q_st_len h]; exact hl), by unfold p_loc; simp; omega, fun j pv hj => ?_⟩
  unfold p_loc at hj
  by_cases hjl : j < as.length
  · rw [List.getElem?_append_left hjl] at hj
    obtain ⟨v, v1, v2⟩ := q_st_get h j pv hj
    have hm := q_args_at 0 hcA j v v1
    rw [Nat.zero_add] at hm
    exact Or.inr ⟨v, v2, hcA v (List.mem_of_getElem? v1), hm⟩
  · rw [List.getElem?_append_right (by omega)] at hj
    have := List.mem_of_getElem? hj
    exact Or.inl (List.eq_of_mem_replicate this)
