/-! the start meets every premise; the run comes to no end: the claim is false as written -/
theorem bd_push : bd_s.vm = { start1.about.vm with classes := start1.about.vm.classes.push bd_c } := rfl
theorem bd_words : ∀ c ∈ (Cond.code x code maxLocals ret :: tables_1), c.before start1.args0 bd_s = true := by
  intro c hc
  cases hq : bd_easy start1.about c with
  | true => exact bd_tr bd_push c hq (start1.words c hc)
  | false =>
    rcases List.mem_cons.mp hc with h | h
    · rw [h] at hq; cases hq
    · have h2 := bd_tab c h
      unfold bd_p at h2; rw [hq] at h2; exact h2
theorem bd_okEnd {below : List Frame} {s : State} (h : bd_ok below.length s = true) (o : Outcome) : ¬ Ended s below o := by
  intro he
  cases o with
  | threw a =>
    have he' : s.frames = .throwing a :: below := he
    unfold bd_ok at h; rw [he'] at h; cases h
  | returned v =>
    have hl : s.frames.length = below.length := by
      unfold Ended at he
      split at he
      · rename_i hh; cases hh
      · split at he
        · obtain ⟨_, _, _, _, _, hf⟩ := he
          rw [hf]; rfl
        · rw [he]; rfl
        · rw [he]; rfl
        · rw [he.2]
    unfold bd_ok at h
    split at h
    · cases h
    · rw [hl] at h; simp at h
theorem bd_never {tb : Tables} {e : Env} {below : List Frame} : ∀ (n : Nat) (s : State), bd_halts tb e below.length n s = true → ∀ (k : Nat) (o : Outcome), (stepsAlone tb e k s).status = Status.running → ¬ Ended (stepsAlone tb e k s) below o
  | 0, s, h => by unfold bd_halts at h; cases h
  | n + 1, s, h => by
    intro k o hr he
    unfold bd_halts at h
    by_cases hrun : s.status = Status.running
    · rw [hrun] at h
      simp only at h
      split at h
      · rename_i hcs
        split at h
        · rename_i ha hb
          cases k with
          | zero => exact bd_okEnd hb o he
          | succ k =>
            have hst : stepsAlone tb e (k + 1) s = stepsAlone tb e k (stepThread tb e s).1 := by
              simp only [stepsAlone, hrun, hcs, ha]
            rw [hst] at hr he
            exact bd_never n _ h k o hr he
        · cases h
      · cases h
    · have hst : stepsAlone tb e k s = s := by
        cases k with
        | zero => rfl
        | succ k =>
          unfold stepsAlone
          split
          · rename_i h1 _ _; exact absurd h1 hrun
          · rfl
      rw [hst] at hr; exact hrun hr
theorem bd_applies : (headSpec (Cond.code x code maxLocals ret :: tables_1) room_1).applies x start1.e0.platform bd_s = true :=
  (Spec.applies_iff rfl).mpr ⟨rfl, rfl, rfl, by decide +kernel, by decide +kernel, by decide +kernel, launch0.hasRoom_least _ room_1 (by decide +kernel) (by decide +kernel) (by decide +kernel) (by decide +kernel) (by decide +kernel) (by decide +kernel), atoms_intro bd_words⟩
theorem bd_pre : Calls_1 start1.p0.tables start1.e0 start1.args0 bd_s ∧ rest_1 start1.p0.tables start1.e0 start1.args0 bd_s ∧ Pre_1 start1.p0.tables start1.e0 start1.args0 bd_s :=
  ⟨trivial, (show rest_1_c.before start1.args0 bd_s = true by decide +kernel), (show (Cond.and given_1 narrow_1).before start1.args0 bd_s = true by decide +kernel)⟩
theorem bd_flags : launch0.flags = flags0 := rfl
theorem bd_no {Post : Tables → Env → Array Value → State → Outcome → State → Prop} (h : ArmFor flags0 classFile x code maxLocals ret World_1 tables_1 room_1 Calls_1 rest_1 Pre_1 Post) : False := by
  obtain ⟨n, o, _, hr, he, _⟩ := h launch0 bd_flags lists_1 trivial start1.p0 start1.e0 (launch0.admits_env _ _ _) fairChoices_fair.cas fairChoices_fair.clock bd_s ⟨0, 0⟩ start1.args0 Lib.HandBits.below0 rfl (by decide +kernel) (by decide +kernel) bd_applies bd_pre
  exact bd_never 160 bd_s bd_halt n o hr he
/-- the claim, both halves, is false as it is printed -/
theorem refuted_1_1 : ¬ Claimed_1_1 := fun h => bd_no h
theorem refuted_1_2 : ¬ Claimed_1_2 := fun h => bd_no h
