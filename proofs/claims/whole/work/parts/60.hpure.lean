/-! the house's text: plain functions -/
def bnd {α β : Type} (x : Nat ⊕ α) (g : α → Nat ⊕ β) : Nat ⊕ β := match x with
  | .inl p => .inl p
  | .inr a => g a
theorem bnd_l {α β : Type} (p : Nat) (g : α → Nat ⊕ β) : bnd (.inl p) g = .inl p := rfl
theorem bnd_r {α β : Type} (a : α) (g : α → Nat ⊕ β) : bnd (.inr a) g = g a := rfl
theorem bnd_ok {α β : Type} {x : Nat ⊕ α} {g : α → Nat ⊕ β} {b : β} (h : bnd x g = .inr b) : ∃ a, x = .inr a ∧ g a = .inr b := by
  cases x with
  | inl p => cases h
  | inr a => exact ⟨a, rfl, h⟩
def pW (f : Nat → Int32) (e : Nat) (ws : List (List Int32)) (k : Nat) : Nat ⊕ (Nat × Nat) := match plc f (bl f e k) (wd f e k) ws 0 with
  | none => .inl (bl f e k)
  | some x => .inr (x, wd f e k)
def pN (f : Nat → Int32) (e : Nat) (lo hi : Int32) (k : Nat) : Nat ⊕ (Int32 × Nat) := match numP f e 3 lo hi k with
  | none => .inl (bl f e k)
  | some v => .inr (v, nm f e k)
theorem pW_ok {f : Nat → Int32} {e k : Nat} {ws : List (List Int32)} {q : Nat × Nat} (hk : k ≤ e) (h : pW f e ws k = .inr q) : q.1 < ws.length ∧ k ≤ q.2 ∧ q.2 ≤ e := by
  unfold pW at h
  split at h
  · cases h
  · rename_i x hx
    cases h
    have h1 := plc_lt _ _ _ hx
    have h2 := bl_le (f := f) hk
    have h3 := wd_le (f := f) hk
    dsimp only
    omega
theorem pW_er {f : Nat → Int32} {e k p : Nat} {ws : List (List Int32)} (hk : k ≤ e) (h : pW f e ws k = .inl p) : p ≤ e := by
  unfold pW at h
  split at h
  · cases h
    exact (bl_le hk).2
  · cases h
theorem pN_ok {f : Nat → Int32} {e k : Nat} {lo hi : Int32} {q : Int32 × Nat} (hk : k ≤ e) (h : pN f e lo hi k = .inr q) : (lo ≤ q.1 ∧ q.1 ≤ hi) ∧ k ≤ q.2 ∧ q.2 ≤ e := by
  unfold pN at h
  split at h
  · cases h
  · rename_i x hx
    cases h
    have h1 := numP_ok hx
    have h2 := bl_le (f := f) hk
    have h3 := nm_le (f := f) hk
    dsimp only
    exact ⟨h1, by omega, by omega⟩
theorem pN_er {f : Nat → Int32} {e k p : Nat} {lo hi : Int32} (hk : k ≤ e) (h : pN f e lo hi k = .inl p) : p ≤ e := by
  unfold pN at h
  split at h
  · cases h
    exact (bl_le hk).2
  · cases h
abbrev HO : Type := Nat ⊕ (Nat × (Nat → Int32))
def rB (f : Nat → Int32) (e w : Nat) (lo hi : Int32) (k : Nat) (s : Nat → Int32) : HO := bnd (pW f e ws_B4 k) fun q => bnd (pN f e lo hi q.2) fun r => .inr (r.2, va_up s (w + q.1) r.1)
def rN (f : Nat → Int32) (e w : Nat) (lo hi : Int32) (k : Nat) (s : Nat → Int32) : HO := bnd (pN f e lo hi k) fun r => .inr (r.2, va_up s w r.1)
def rP (f : Nat → Int32) (e k : Nat) (s : Nat → Int32) : HO := bnd (pW f e ws_B4 k) fun q => bnd (pW f e ws_TA q.2) fun t => if t.1 = 0 then bnd (pN f e 0 4 t.2) fun r => .inr (r.2, va_up s (4 + q.1) r.1) else .inr (t.2, va_up s (4 + q.1) (-1))
def rA (f : Nat → Int32) (e k : Nat) (s : Nat → Int32) : HO := bnd (pN f e 0 5 k) fun r => bnd (pW f e [w_times] r.2) fun a => bnd (pW f e [w_with] a.2) fun b => bnd (pW f e ws_B3 b.2) fun c => bnd (pN f e 1 20 c.2) fun d => .inr (d.2, va_up (va_up (va_up s 13 r.1) 14 (nI c.1)) 15 d.1)
def rul (f : Nat → Int32) (e n k : Nat) (s : Nat → Int32) : HO := if n = 24 then .inl (bl f e k) else bnd (pW f e ws_R7 k) fun q => if q.1 = 0 then rB f e 0 0 100 q.2 s else if q.1 = 1 then rP f e q.2 s else if q.1 = 2 then rN f e 8 1 20 q.2 s else if q.1 = 3 then rB f e 9 1 60 q.2 s else if q.1 = 4 then rA f e q.2 s else if q.1 = 5 then rN f e 16 1 20 q.2 s else rN f e 17 0 50 q.2 s
def houP (f : Nat → Int32) (e : Nat) : Nat → Nat → Nat → (Nat → Int32) → HO
  | 0, _, _, _ => .inl 0
  | r + 1, n, k, s => bnd (rul f e n k s) fun q => if bl f e q.1 < e then (if f (bl f e q.1) = 59 then houP f e r (n + 1) (bl f e q.1 + 1) q.2 else .inl (bl f e q.1)) else .inr (n + 1, q.2)
/-! what it tells stays in bounds -/
theorem n_of {v : Int32} {lo hi : Nat} (h : nI lo ≤ v ∧ v ≤ nI hi) (hlo : lo < 2 ^ 31) (hh : hi < 2 ^ 31) : ∃ x : Nat, lo ≤ x ∧ x ≤ hi ∧ v = nI x := rg3 v lo hi (nI lo) (nI hi) rfl rfl hh hlo h
theorem okS_up {s : Nat → Int32} {w : Nat} {v : Int32} (h : okS s) (hv : (w < 4 ∧ ∃ x : Nat, x ≤ 100 ∧ v = nI x) ∨ (4 ≤ w ∧ w < 8 ∧ (v = -1 ∨ ∃ x : Nat, x ≤ 4 ∧ v = nI x)) ∨ (w = 8 ∧ ∃ x : Nat, 1 ≤ x ∧ x ≤ 20 ∧ v = nI x) ∨ (9 ≤ w ∧ w < 13 ∧ ∃ x : Nat, 1 ≤ x ∧ x ≤ 60 ∧ v = nI x) ∨ (w = 13 ∧ ∃ x : Nat, x ≤ 5 ∧ v = nI x) ∨ (w = 14 ∧ ∃ x : Nat, x ≤ 2 ∧ v = nI x) ∨ (w = 15 ∧ ∃ x : Nat, 1 ≤ x ∧ x ≤ 20 ∧ v = nI x) ∨ (w = 16 ∧ ∃ x : Nat, 1 ≤ x ∧ x ≤ 20 ∧ v = nI x) ∨ (w = 17 ∧ ∃ x : Nat, x ≤ 50 ∧ v = nI x)) : okS (va_up s w v) := by
  obtain ⟨h0, h4, h8, h9, h13, h14, h15, h16, h17⟩ := h
  have g : ∀ j, j ≠ w → va_up s w v j = s j := fun j hj => by rw [z_up, if_neg hj]
  have g' : va_up s w v w = v := by rw [z_up, if_pos rfl]
  refine ⟨fun j hj => ?_, fun j hj => ?_, ?_, fun j hj => ?_, ?_, ?_, ?_, ?_, ?_⟩
  · by_cases c : j = w
    · subst c; rw [g']; rcases hv with hv | hv | hv | hv | hv | hv | hv | hv | hv
      · exact hv.2
      all_goals omega
    · rw [g j c]; exact h0 j hj
  · by_cases c : 4 + j = w
    · subst c; rw [g']; rcases hv with hv | hv | hv | hv | hv | hv | hv | hv | hv
      · omega
      · exact hv.2.2
      all_goals omega
    · rw [g _ c]; exact h4 j hj
  · by_cases c : 8 = w
    · subst c; rw [g']; rcases hv with hv | hv | hv | hv | hv | hv | hv | hv | hv
      · omega
      · omega
      · exact hv.2
      all_goals omega
    · rw [g _ c]; exact h8
  · by_cases c : 9 + j = w
    · subst c; rw [g']; rcases hv with hv | hv | hv | hv | hv | hv | hv | hv | hv
      · omega
      · omega
      · omega
      · exact hv.2.2
      all_goals omega
    · rw [g _ c]; exact h9 j hj
  · by_cases c : 13 = w
    · subst c; rw [g']; rcases hv with hv | hv | hv | hv | hv | hv | hv | hv | hv
      · omega
      · omega
      · omega
      · omega
      · exact hv.2
      all_goals omega
    · rw [g _ c]; exact h13
  · by_cases c : 14 = w
    · subst c; rw [g']; rcases hv with hv | hv | hv | hv | hv | hv | hv | hv | hv
      · omega
      · omega
      · omega
      · omega
      · omega
      · exact hv.2
      all_goals omega
    · rw [g _ c]; exact h14
  · by_cases c : 15 = w
    · subst c; rw [g']; rcases hv with hv | hv | hv | hv | hv | hv | hv | hv | hv
      · omega
      · omega
      · omega
      · omega
      · omega
      · omega
      · exact hv.2
      all_goals omega
    · rw [g _ c]; exact h15
  · by_cases c : 16 = w
    · subst c; rw [g']; rcases hv with hv | hv | hv | hv | hv | hv | hv | hv | hv
      · omega
      · omega
      · omega
      · omega
      · omega
      · omega
      · omega
      · exact hv.2
      · omega
    · rw [g _ c]; exact h16
  · by_cases c : 17 = w
    · subst c; rw [g']; rcases hv with hv | hv | hv | hv | hv | hv | hv | hv | hv
      · omega
      · omega
      · omega
      · omega
      · omega
      · omega
      · omega
      · omega
      · exact hv.2
    · rw [g _ c]; exact h17
theorem rul_ok {f : Nat → Int32} {e n k : Nat} {s : Nat → Int32} {q : Nat × (Nat → Int32)} (hk : k ≤ e) (hs : okS s) (h : rul f e n k s = .inr q) : okS q.2 ∧ k ≤ q.1 ∧ q.1 ≤ e := by
  unfold rul at h
  split at h
  · cases h
  · obtain ⟨a, h1, h⟩ := bnd_ok h
    obtain ⟨a1, a2, a3⟩ := pW_ok hk h1
    have a1 : a.1 < 7 := a1
    have hB : ∀ (w : Nat) (lo hi : Int32), rB f e w lo hi a.2 s = .inr q → (∀ x v, x < 4 → lo ≤ v ∧ v ≤ hi → okS (va_up s (w + x) v)) → okS q.2 ∧ k ≤ q.1 ∧ q.1 ≤ e := by
      intro w lo hi h hh
      obtain ⟨b, h2, h⟩ := bnd_ok h
      obtain ⟨b1, b2, b3⟩ := pW_ok a3 h2
      obtain ⟨c, h3, h⟩ := bnd_ok h
      obtain ⟨c1, c2, c3⟩ := pN_ok b3 h3
      cases h
      exact ⟨hh _ _ b1 c1, by dsimp only; omega, c3⟩
    have hN : ∀ (w : Nat) (lo hi : Int32), rN f e w lo hi a.2 s = .inr q → (∀ v, lo ≤ v ∧ v ≤ hi → okS (va_up s w v)) → okS q.2 ∧ k ≤ q.1 ∧ q.1 ≤ e := by
      intro w lo hi h hh
      obtain ⟨c, h3, h⟩ := bnd_ok h
      obtain ⟨c1, c2, c3⟩ := pN_ok a3 h3
      cases h
      exact ⟨hh _ c1, by dsimp only; omega, c3⟩
    split at h
    · refine hB 0 0 100 h (fun x v hx hv => okS_up hs (Or.inl ⟨by omega, ?_⟩))
      obtain ⟨y, -, h1, h2⟩ := n_of (lo := 0) (hi := 100) hv (by decide) (by decide)
      exact ⟨y, h1, h2⟩
    · split at h
      · obtain ⟨b, h2, h⟩ := bnd_ok h
        obtain ⟨b1, b2, b3⟩ := pW_ok a3 h2
        have b1 : b.1 < 4 := b1
        obtain ⟨t, h3, h⟩ := bnd_ok h
        obtain ⟨t1, t2, t3⟩ := pW_ok b3 h3
        split at h
        · obtain ⟨c, h4, h⟩ := bnd_ok h
          obtain ⟨c1, c2, c3⟩ := pN_ok t3 h4
          cases h
          obtain ⟨y, -, y1, y2⟩ := n_of (lo := 0) (hi := 4) c1 (by decide) (by decide)
          exact ⟨okS_up hs (Or.inr (Or.inl ⟨by omega, by omega, Or.inr ⟨y, y1, y2⟩⟩)), by dsimp only; omega, c3⟩
        · cases h
          exact ⟨okS_up hs (Or.inr (Or.inl ⟨by omega, by omega, Or.inl rfl⟩)), by dsimp only; omega, t3⟩
      · split at h
        · exact hN 8 1 20 h (fun v hv => okS_up hs (Or.inr (Or.inr (Or.inl ⟨rfl, n_of (lo := 1) (hi := 20) hv (by decide) (by decide)⟩))))
        · split at h
          · exact hB 9 1 60 h (fun x v hx hv => okS_up hs (Or.inr (Or.inr (Or.inr (Or.inl ⟨by omega, by omega, n_of (lo := 1) (hi := 60) hv (by decide) (by decide)⟩)))))
          · split at h
            · obtain ⟨r, h2, h⟩ := bnd_ok h
              obtain ⟨r1, r2, r3⟩ := pN_ok a3 h2
              obtain ⟨t, h3, h⟩ := bnd_ok h
              obtain ⟨t1, t2, t3⟩ := pW_ok r3 h3
              obtain ⟨b, h4, h⟩ := bnd_ok h
              obtain ⟨b1, b2, b3⟩ := pW_ok t3 h4
              obtain ⟨c, h5, h⟩ := bnd_ok h
              obtain ⟨c1, c2, c3⟩ := pW_ok b3 h5
              have c1 : c.1 < 3 := c1
              obtain ⟨d, h6, h⟩ := bnd_ok h
              obtain ⟨d1, d2, d3⟩ := pN_ok c3 h6
              cases h
              obtain ⟨y, -, y1, y2⟩ := n_of (lo := 0) (hi := 5) r1 (by decide) (by decide)
              refine ⟨okS_up (okS_up (okS_up hs ?_) ?_) ?_, by dsimp only; omega, d3⟩
              · exact Or.inr (Or.inr (Or.inr (Or.inr (Or.inl ⟨rfl, y, y1, y2⟩))))
              · exact Or.inr (Or.inr (Or.inr (Or.inr (Or.inr (Or.inl ⟨rfl, c.1, by omega, rfl⟩)))))
              · exact Or.inr (Or.inr (Or.inr (Or.inr (Or.inr (Or.inr (Or.inl ⟨rfl, n_of (lo := 1) (hi := 20) d1 (by decide) (by decide)⟩))))))
            · split at h
              · exact hN 16 1 20 h (fun v hv => okS_up hs (Or.inr (Or.inr (Or.inr (Or.inr (Or.inr (Or.inr (Or.inr (Or.inl ⟨rfl, n_of (lo := 1) (hi := 20) hv (by decide) (by decide)⟩)))))))))
              · refine hN 17 0 50 h (fun v hv => okS_up hs (Or.inr (Or.inr (Or.inr (Or.inr (Or.inr (Or.inr (Or.inr (Or.inr ⟨rfl, ?_⟩)))))))))
                obtain ⟨y, -, h1, h2⟩ := n_of (lo := 0) (hi := 50) hv (by decide) (by decide)
                exact ⟨y, h1, h2⟩
