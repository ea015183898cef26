/-! what leaves the lots alone -/
def Ag (μ μ' : p_M) (C : Nat) : Prop := (∀ a, 113 ≤ a → mR μ' a = mR μ a ∧ mK μ' a = mK μ a ∧ mL μ' a = mL μ a ∧ mI μ' a = mI μ a) ∧ mN μ ≤ mN μ' ∧ (∀ j, j < 40 → mI μ' 68 j = mI μ 68 j) ∧ (∀ k, k < 800 → mI μ' 69 k = mI μ 69 k ∧ mI μ' 70 k = mI μ 70 k) ∧ (∀ k, k < 200 → mI μ' 74 k = mI μ 74 k) ∧ (∀ c, c < C → mI μ' 73 c = mI μ 73 c) ∧ ∀ a, 89 ≤ a → a ≤ 107 → mI μ' a = mI μ a
theorem isRec_g {μ μ' : p_M} {R B A N : Nat} (hN : mN μ ≤ mN μ') (hR : mR μ' R = mR μ R ∧ mK μ' R = mK μ R) (hB : mK μ' B = mK μ B ∧ mL μ' B = mL μ B) (hA : mK μ' A = mK μ A ∧ mL μ' A = mL μ A) (h : isRec μ R B A N) : isRec μ' R B A N := by
  obtain ⟨h1, h2, h3, h4, h5, h6, h7⟩ := h
  refine ⟨⟨hR.2.trans h1.1, by have := h1.2; omega⟩, by rw [hR.1]; exact h2, by rw [hR.1]; exact h3, ⟨h4.1, hB.1.trans h4.2.1, by have := h4.2.2; omega⟩, hB.2.trans h5, ⟨h6.1, hA.1.trans h6.2.1, by have := h6.2.2; omega⟩, hA.2.trans h7⟩
theorem LotR_ag {μ μ' : p_M} {C K M C' K' j l : Nat} (ag : Ag μ μ' C) (hC6 : C ≤ 6) (hC : C ≤ C') (hK : K ≤ K') (hj : j < 40) (h : LotR μ C K M j l) : LotR μ' C' K' M j l := by
  obtain ⟨a1, a2, a3, a4, a5, a6, a7⟩ := ag
  obtain ⟨P, nb, ⟨s0, s1, s2, s3, s4, s5, s6, s7, s8, s9, s10, s11⟩, V, ⟨G0, G1⟩, ⟨L, h, c, k1, k2, k3, k4, k5, k6, k7⟩, ⟨b1, b2, b3, b4⟩, pz, pm⟩ := h
  have r89 := a7 89 (by decide) (by decide)
  have r90 := a7 90 (by decide) (by decide)
  have r91 := a7 91 (by decide) (by decide)
  have r92 := a7 92 (by decide) (by decide)
  have r93 := a7 93 (by decide) (by decide)
  have r94 := a7 94 (by decide) (by decide)
  have r95 := a7 95 (by decide) (by decide)
  have r96 := a7 96 (by decide) (by decide)
  have r97 := a7 97 (by decide) (by decide)
  have r98 := a7 98 (by decide) (by decide)
  have r99 := a7 99 (by decide) (by decide)
  have r100 := a7 100 (by decide) (by decide)
  have r101 := a7 101 (by decide) (by decide)
  have r103 := a7 103 (by decide) (by decide)
  have r104 := a7 104 (by decide) (by decide)
  have r105 := a7 105 (by decide) (by decide)
  have e0 := a1 l s0
  have e1 := a1 (l + 1) (by omega)
  have e2 := a1 (l + 2) (by omega)
  have e3 := a1 (l + 3) (by omega)
  have e4 := a1 (l + 4) (by omega)
  have e5 := a1 (l + 5) (by omega)
  have e6 := a1 (l + 6) (by omega)
  refine ⟨P, nb, ⟨s0, ⟨e0.2.1.trans s1.1, by have := s1.2; omega⟩, by rw [e0.1]; exact s2, by rw [e0.1]; exact s3, by rw [e0.1]; exact s4, by rw [e0.1]; exact s5, ⟨e1.2.1.trans s6.1, by have := s6.2; omega⟩, isRec_g a2 ⟨e2.1, e2.2.1⟩ ⟨e3.2.1, e3.2.2.1⟩ ⟨e4.2.1, e4.2.2.1⟩ s7, ⟨s8.1, e5.2.1.trans s8.2.1, by have := s8.2.2; omega⟩, e5.2.2.1.trans s9, ⟨s10.1, e6.2.1.trans s10.2.1, by have := s10.2.2; omega⟩, e6.2.2.1.trans s11⟩, ?_, ?_, ⟨L, h, c, k1, k2, by rw [e1.2.2.2]; exact k3, ?_, k5, by rw [r89]; exact k6, ?_⟩, ⟨b1, (a3 j hj).trans b2, by rw [e2.2.2.2]; exact b3, fun q hq => ?_⟩, fun p hp => ?_, fun p hp => ?_⟩
  · unfold LotV at *
    rw [e0.2.2.2, r89, r90, r91, r92, r93, r94, r95, r96, r97, r98, r99, r100, r101]
    exact V
  · unfold LotG bnN at *
    rw [r89, r90, r91, r92, r93, r94, r95, r96, r97, r98, r101]
    obtain ⟨c', hc1, hc2⟩ := G0
    obtain ⟨q1, q2, q3, q4, q5, q6, q7, q8, q9, q10, q11, q12⟩ := G1
    exact ⟨⟨c', by omega, hc2⟩, q1, q2, q3, q4, q5, q6, q7, q8, q9, q10, q11, fun hq => by
      obtain ⟨i, hi, e⟩ := q12 hq
      exact ⟨i, by omega, e⟩⟩
  · unfold isR at *
    rw [a5 _ (by omega), a5 _ (by omega), a5 _ (by omega), a5 _ (by omega), a5 _ (by omega)]
    exact k4
  · obtain ⟨c', hc1, hc2⟩ := G0
    have : c = c' := (nI_eq (show c < 2 ^ 31 by omega) (show c' < 2 ^ 31 by omega)).mp (k6.symm.trans hc2)
    rw [a6 c (by omega)]
    exact k7
  · rw [e3.2.2.2, e4.2.2.2, (a4 _ (show 20 * j + q < 800 by omega)).1, (a4 _ (show 20 * j + q < 800 by omega)).2]
    exact b4 q hq
  · rw [e5.2.2.2, r103]
    exact pz p hp
  · rw [e6.2.2.2, r104, r105]
    exact pm p hp
theorem wt_g {μ μ' : p_M} (h96 : mI μ' 96 = mI μ 96) (h97 : mI μ' 97 = mI μ 97) (i : Nat) : wt μ' i = wt μ i := by
  funext j
  unfold wt
  rw [h96, h97]
theorem ld_g {μ μ' : p_M} (h96 : mI μ' 96 = mI μ 96) : ld μ' = ld μ := by
  funext j
  unfold ld
  rw [h96]
abbrev gRows : List Nat := [37, 38, 39, 40, 41, 57, 58, 59, 60, 61, 62, 63, 64, 85, 86, 87, 88]
theorem g57 {i : Nat} (h : i < 4) : 57 + 2 * i ∈ gRows ∧ 58 + 2 * i ∈ gRows := by
  rcases (show i = 0 ∨ i = 1 ∨ i = 2 ∨ i = 3 by omega) with rfl | rfl | rfl | rfl <;> decide
theorem RLots_g {μ μ' : p_M} (hR : RLots μ) (ag : ∀ C, mI μ 65 14 = nI C → C ≤ 6 → Ag μ μ' C ∧ ∃ C', C ≤ C' ∧ C' ≤ 6 ∧ mI μ' 65 14 = nI C') (r37 : mR μ' 37 = mR μ 37) (h013 : mI μ' 0 13 = mI μ 0 13) (rows : ∀ a, a ∈ gRows → mI μ' a = mI μ a) (nums : ∀ k, k ∈ [47, 62, 63, 69, 70] → mI μ' 65 k = mI μ 65 k) : RLots μ' := by
  obtain ⟨N, K, M, C, E, lr, ⟨l1, l2, l3, l4, l5, l6⟩, hC, hK, hLot, hM, hZ, hzr, hme, hld⟩ := hR
  obtain ⟨agC, C', hc1, hc2, hc3⟩ := ag C hC.1 hC.2
  have agC0 := agC
  obtain ⟨a1, a2, -, -, -, -, a7⟩ := agC0
  have h96 := a7 96 (by decide) (by decide)
  have h97 := a7 97 (by decide) (by decide)
  have h98 := a7 98 (by decide) (by decide)
  have h101 := a7 101 (by decide) (by decide)
  have h102 := a7 102 (by decide) (by decide)
  have h103 := a7 103 (by decide) (by decide)
  have h104 := a7 104 (by decide) (by decide)
  have h105 := a7 105 (by decide) (by decide)
  have h106 := a7 106 (by decide) (by decide)
  have h107 := a7 107 (by decide) (by decide)
  refine ⟨N, K, M, C', E, lr, ⟨?_, ?_, l3, ?_, l5, l6⟩, ⟨hc3, hc2⟩, ⟨h013.trans hK.1, (nums 47 (by decide)).trans hK.2.1, hK.2.2⟩, fun j hj => LotR_ag agC hC.2 hc1 (Nat.le_refl K) (by omega) (hLot j hj), fun i hi => ?_, fun i h1 h2 => ?_, ?_, ?_, ?_⟩
  · rw [rows 37 (by decide)]; exact l1
  · rw [nums 62 (by decide)]; exact l2
  · rw [r37]
    rcases l4 with h | ⟨q1, q2, q3, q4, q5, q6, q7, q8⟩
    · exact Or.inl h
    · have e := a1 E q3
      refine Or.inr ⟨q1, q2, q3, by omega, e.2.1.trans q5, by rw [e.2.2.1]; exact q6, by rw [e.2.2.1]; exact q7, fun j hj => by rw [e.1]; exact q8 j hj⟩
  · have hi4 : i < 4 := by omega
    have e1 := rows (57 + 2 * i) (g57 hi4).1
    have e2 := rows (58 + 2 * i) (g57 hi4).2
    have e85 := rows 85 (by decide)
    have e86 := rows 86 (by decide)
    have e87 := rows 87 (by decide)
    have e88 := rows 88 (by decide)
    unfold MacR
    rw [e1, e2, e85, e86, e87, e88, h96, h97, h102, wt_g h96 h97]
    exact hM i hi
  · have e1 := rows (57 + 2 * i) (g57 h2).1
    have e88 := rows 88 (by decide)
    unfold MacZ
    rw [e1, e88]
    exact hZ i h1 h2
  · unfold ZroR
    rw [h96, h98, h101, h103]
    exact hzr
  · unfold MeaR
    rw [rows 38 (by decide), rows 39 (by decide), rows 40 (by decide), rows 41 (by decide), nums 69 (by decide), nums 70 (by decide), h104, h105, h106, h107]
    exact hme
  · unfold LdR
    rw [nums 63 (by decide), ld_g h96, h102]
    exact hld
theorem Ag_fr {cs ss : List Nat} {μ μ' : p_M} (f : Fr cs ss μ μ') (d : dj cs ss [89, 90, 91, 92, 93, 94, 95, 96, 97, 98, 99, 100, 101, 102, 103, 104, 105, 106, 107] [] = true) (d113 : cs.all (fun a => decide (a < 113)) = true) (h68 : ∀ j, j < 40 → mI μ' 68 j = mI μ 68 j) (h69 : ∀ k, k < 800 → mI μ' 69 k = mI μ 69 k ∧ mI μ' 70 k = mI μ 70 k) (h74 : ∀ k, k < 200 → mI μ' 74 k = mI μ 74 k) {C : Nat} (h73 : ∀ c, c < C → mI μ' 73 c = mI μ 73 c) : Ag μ μ' C := by
  refine ⟨fun a ha => ⟨by rw [f.1], by rw [f.2.1], by rw [f.2.2.1], ?_⟩, by rw [f.2.2.2.1]; exact Nat.le_refl _, h68, h69, h74, h73, fun a h1 h2 => ?_⟩
  · exact f.2.2.2.2.1 a (by omega) (fun hm => by
      have := List.all_eq_true.mp d113 a hm
      have := of_decide_eq_true this
      omega)
  · refine Fr_row f a (dj1 d ?_)
    have : a = 89 ∨ a = 90 ∨ a = 91 ∨ a = 92 ∨ a = 93 ∨ a = 94 ∨ a = 95 ∨ a = 96 ∨ a = 97 ∨ a = 98 ∨ a = 99 ∨ a = 100 ∨ a = 101 ∨ a = 102 ∨ a = 103 ∨ a = 104 ∨ a = 105 ∨ a = 106 ∨ a = 107 := by omega
    rcases this with rfl | rfl | rfl | rfl | rfl | rfl | rfl | rfl | rfl | rfl | rfl | rfl | rfl | rfl | rfl | rfl | rfl | rfl | rfl <;> decide
/-- methods that touch none of it -/
theorem RLots_fr {cs ss : List Nat} {μ μ' : p_M} (f : Fr cs ss μ μ') (d : dj cs ss [37, 38, 39, 40, 41, 57, 58, 59, 60, 61, 62, 63, 64, 85, 86, 87, 88] [14, 47, 62, 63, 69, 70] = true) (d2 : dj cs ss [89, 90, 91, 92, 93, 94, 95, 96, 97, 98, 99, 100, 101, 102, 103, 104, 105, 106, 107] [] = true) (d113 : cs.all (fun a => decide (a < 113)) = true) (h013 : mI μ' 0 13 = mI μ 0 13) (h68 : ∀ j, j < 40 → mI μ' 68 j = mI μ 68 j) (h69 : ∀ k, k < 800 → mI μ' 69 k = mI μ 69 k ∧ mI μ' 70 k = mI μ 70 k) (h74 : ∀ k, k < 200 → mI μ' 74 k = mI μ 74 k) (h73 : ∀ c, mI μ' 73 c = mI μ 73 c) (hR : RLots μ) : RLots μ' := by
  refine RLots_g hR (fun C hC1 hC2 => ⟨Ag_fr f d2 d113 h68 h69 h74 (fun c _ => h73 c), C, Nat.le_refl _, hC2, (Fr_sc f 14 (dj2 d (by decide))).trans hC1⟩) (by rw [f.1]) h013 (fun a ha => Fr_row f a (dj1 d ha)) (fun k hk => Fr_sc f k (dj2 d ?_))
  have : k = 47 ∨ k = 62 ∨ k = 63 ∨ k = 69 ∨ k = 70 := by simpa using hk
  rcases this with rfl | rfl | rfl | rfl | rfl <;> decide
theorem RLots_fr0 {cs ss : List Nat} {μ μ' : p_M} (f : Fr cs ss μ μ') (d : dj cs ss [37, 38, 39, 40, 41, 57, 58, 59, 60, 61, 62, 63, 64, 85, 86, 87, 88] [14, 47, 62, 63, 69, 70] = true) (d2 : dj cs ss [89, 90, 91, 92, 93, 94, 95, 96, 97, 98, 99, 100, 101, 102, 103, 104, 105, 106, 107] [] = true) (d113 : cs.all (fun a => decide (a < 113)) = true) (d3 : dj cs ss [0, 68, 69, 70, 73, 74] [] = true) (hR : RLots μ) : RLots μ' :=
  RLots_fr f d d2 d113 (by rw [Fr_row f 0 (dj1 d3 (by decide))]) (fun j _ => by rw [Fr_row f 68 (dj1 d3 (by decide))]) (fun j _ => by rw [Fr_row f 69 (dj1 d3 (by decide)), Fr_row f 70 (dj1 d3 (by decide))]; exact ⟨rfl, rfl⟩) (fun j _ => by rw [Fr_row f 74 (dj1 d3 (by decide))]) (fun j => by rw [Fr_row f 73 (dj1 d3 (by decide))]) hR
