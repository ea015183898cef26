/-! rows of the pure machine -/
section EV
variable {X : p_X}
set_option maxHeartbeats 4000000 in
theorem p_mono : ∀ (n d : Nat) (M : q_M) (pc : Nat) (lo st : List Value) (μ : p_M) (r : p_R), p_run X n d M pc lo st μ = some r → p_run X (n + 1) d M pc lo st μ = some r
  | 0, _, _, _, _, _, _, _, h => by cases h
  | n + 1, d, M, pc, lo, st, μ, r, h => by
    rw [p_run] at h ⊢
    split at h
    · cases h
    · rename_i i len hdec
      try simp only [hdec]
      split at h
      · rename_i q hx
        try simp only [hx]
        exact p_mono n _ _ _ _ _ _ _ h
      · rename_i hx
        try simp only [hx]
        split at h
        · rename_i q hp
          try simp only [hp]
          exact p_mono n _ _ _ _ _ _ _ h
        · rename_i hp
          try simp only [hp]
          split at h
          · rename_i v hr
            try simp only [hr]
            exact h
          · rename_i hr
            try simp only [hr]
            split at h
            · rename_i E ht
              try simp only [ht]
              exact h
            · rename_i ht
              try simp only [ht]
              split at h
              · rename_i k as rest hc
                try simp only [hc]
                split at h
                · rename_i v μ1 hq
                  try simp only [hq]
                  exact p_mono n _ _ _ _ _ _ _ h
                · cases h
              · rename_i hc
                try simp only [hc]
                split at h
                · rename_i f as rest hf
                  try simp only [hf]
                  split at h
                  · cases h
                  · rename_i d1
                    try dsimp only
                    split at h
                    · rename_i hcond
                      try rw [if_pos hcond]
                      split at h
                      · rename_i v μ1 hrun
                        rw [p_mono n _ _ _ _ _ _ _ hrun]
                        exact p_mono n _ _ _ _ _ _ _ h
                      · rename_i E z μ1 hrun
                        rw [p_mono n _ _ _ _ _ _ _ hrun]
                        try dsimp only
                        split at h
                        · cases h
                        · rename_i hnx
                          try rw [if_neg hnx]
                          split at h
                          · rename_i tgt hh
                            try simp only [hh]
                            exact p_mono n _ _ _ _ _ _ _ h
                          · rename_i hh
                            try simp only [hh]
                            exact h
                      · cases h
                    · cases h
                · cases h
theorem p_le {n d : Nat} {M : q_M} {pc : Nat} {lo st : List Value} {μ : p_M} {r : p_R} (h : p_run X n d M pc lo st μ = some r) : ∀ k, p_run X (n + k) d M pc lo st μ = some r
  | 0 => h
  | k + 1 => p_mono (n + k) _ _ _ _ _ _ _ (p_le h k)
variable {d : Nat} {M : q_M} {pc : Nat} {lo st : List Value} {μ : p_M} {Q : p_R → Prop}
theorem e_x {i : Instr} {len : Nat} {q : p_S} (hd : decode (q_cc M) pc = .ok (i, len)) (hx : p_exec X M i len pc lo st μ = some q) (k : p_Ev X d M q.1 q.2.1 q.2.2.1 q.2.2.2 Q) : p_Ev X d M pc lo st μ Q := by
  obtain ⟨n, r, h1, h2⟩ := k
  refine ⟨n + 1, r, ?_, h2⟩
  rw [p_run]
  simp only [hd, hx]
  exact h1
theorem e_p {i : Instr} {len : Nat} {q : p_S} (hd : decode (q_cc M) pc = .ok (i, len)) (h0 : p_exec X M i len pc lo st μ = none) (hx : p_pool M i len pc lo st μ = some q) (k : p_Ev X d M q.1 q.2.1 q.2.2.1 q.2.2.2 Q) : p_Ev X d M pc lo st μ Q := by
  obtain ⟨n, r, h1, h2⟩ := k
  refine ⟨n + 1, r, ?_, h2⟩
  rw [p_run]
  simp only [hd, h0, hx]
  exact h1
theorem e_r {i : Instr} {len : Nat} {v : Option Value} (hd : decode (q_cc M) pc = .ok (i, len)) (h0 : p_exec X M i len pc lo st μ = none) (h1 : p_pool M i len pc lo st μ = none) (hx : p_ret M i len st = some v) (hQ : Q ((0, v), μ)) : p_Ev X d M pc lo st μ Q := by
  refine ⟨1, ((0, v), μ), ?_, hQ⟩
  rw [p_run]
  simp only [hd, h0, h1, hx]
theorem e_t {i : Instr} {E : Nat} (hd : decode (q_cc M) pc = .ok (i, 3)) (h0 : p_exec X M i 3 pc lo st μ = none) (h1 : p_pool M i 3 pc lo st μ = none) (h2 : p_ret M i 3 st = none) (hx : p_thr M i pc st = some E) (hQ : Q ((E, none), sG μ 1 6)) : p_Ev X d M pc lo st μ Q := by
  refine ⟨1, ((E, none), sG μ 1 6), ?_, hQ⟩
  rw [p_run]
  simp only [hd, h0, h1, h2, hx, if_pos]
theorem e_pr {i : Instr} {kk : Nat} {as rest : List Value} {v : Option Value} {μ1 : p_M} (hd : decode (q_cc M) pc = .ok (i, 3)) (h0 : p_exec X M i 3 pc lo st μ = none) (h1 : p_pool M i 3 pc lo st μ = none) (h2 : p_ret M i 3 st = none) (h3 : p_thr M i pc st = none) (hc : p_callP M i 3 st = some (kk, as, rest)) (hx : p_prim X kk as μ = some (v, μ1)) (k : p_Ev X d M (pc + 3) lo (v.toList ++ rest) μ1 Q) : p_Ev X d M pc lo st μ Q := by
  obtain ⟨n, r, g1, g2⟩ := k
  refine ⟨n + 1, r, ?_, g2⟩
  rw [p_run]
  simp only [hd, h0, h1, h2, h3, hc, hx]
  exact g1
/-- a call: what comes of it -/
theorem e_c {i : Instr} {f : q_L} {as rest : List Value} (hd : decode (q_cc M) pc = .ok (i, 3)) (h0 : p_exec X M i 3 pc lo st μ = none) (h1 : p_pool M i 3 pc lo st μ = none) (h2 : p_ret M i 3 st = none) (h3 : p_thr M i pc st = none) (h4 : p_callP M i 3 st = none) (hc : p_call M i 3 st μ = some (f, as, rest)) (hcond : f.2.2.1 = 1 ∨ q_hh f.2.2.2.2 = [])
    (k : p_Ev X d f.2.2.2.2 0 (p_loc f.2.2.2.2 as) [] μ (fun r => (r.1.1 = 0 ∧ p_Ev X (d + 1) M (pc + 3) lo (r.1.2.toList ++ rest) r.2 Q) ∨ (∃ E, r.1.1 = E + 1 ∧ ¬ (f.2.2.1 = 2 ∨ ¬ q_hh f.2.2.2.2 = []) ∧ ((∃ h, p_hnd M pc (E + 1) (q_hh M) = some h ∧ p_Ev X (d + 1) M h lo [.retAddr 0] r.2 Q) ∨ (p_hnd M pc (E + 1) (q_hh M) = none ∧ q_hh M = [] ∧ Q ((E + 1, none), r.2)))))) : p_Ev X (d + 1) M pc lo st μ Q := by
  obtain ⟨n1, r1, g1, g2⟩ := k
  obtain ⟨⟨o, v⟩, μ1⟩ := r1
  rcases g2 with ⟨z, n2, r2, g3, g4⟩ | ⟨E, z, hn, ⟨h, hh, n2, r2, g3, g4⟩ | ⟨hh, hnil, hQ⟩⟩
  · have z : o = 0 := z
    subst z
    refine ⟨n1 + n2 + 1, r2, ?_, g4⟩
    rw [p_run]
    have e1 := p_le g1 n2
    have e2 := p_le g3 n1
    rw [Nat.add_comm n2 n1] at e2
    simp only [hd, h0, h1, h2, h3, h4, hc]
    rw [if_pos hcond]
    simp only [e1]
    exact e2
  · have z : o = E + 1 := z
    subst z
    refine ⟨n1 + n2 + 1, r2, ?_, g4⟩
    rw [p_run]
    have e1 := p_le g1 n2
    have e2 := p_le g3 n1
    rw [Nat.add_comm n2 n1] at e2
    simp only [hd, h0, h1, h2, h3, h4, hc]
    rw [if_pos hcond]
    simp only [e1]
    rw [if_neg hn]
    simp only [hh]
    exact e2
  · have z : o = E + 1 := z
    subst z
    refine ⟨n1 + 1, _, ?_, hQ⟩
    rw [p_run]
    simp only [hd, h0, h1, h2, h3, h4, hc]
    rw [if_pos hcond]
    simp only [g1]
    rw [if_neg hn]
    simp only [hh]
    rw [if_pos hnil]
end EV
