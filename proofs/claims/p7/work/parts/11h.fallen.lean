section Refuted
theorem cz_words : ∀ c ∈ (Jvm.Cond.code x code maxLocals ret :: tables_1), c.before start1.args0 cz_bad = true := by
  intro c hc
  simp only [tables_1, List.mem_cons, List.mem_append] at hc
  rcases hc with h | h | h | h | h | h
  · rw [h]; exact cz_code start1.word_code
  · exact cz_w_1 c h
  · exact cz_w_2 c h
  · exact cz_w_3 c h
  · exact cz_w_4 c h
  · exact cz_w_5 c h
set_option maxRecDepth 16384 in
/-- every premise of the printed statement holds at cz_bad -/
theorem cz_start : Jvm.D.AtStart classFile x code maxLocals ret World_1 tables_1 room_1 Calls_1 rest_1 Pre_1 launch0 start1.p0 start1.e0 cz_bad ⟨0, 0⟩ start1.args0 Lib.HandBits.below0 := by
  obtain ⟨hL, hW, ha, hl, hc, hk, -⟩ := start1.atStart
  have hroom : cz_bad.hasRoom start1.e0.platform room_1 = true := launch0.hasRoom_least _ room_1 (by decide +kernel) (by decide +kernel) (by decide +kernel) (by decide +kernel) (by decide +kernel) (by decide +kernel)
  have happ : (Jvm.D.headSpec (Jvm.Cond.code x code maxLocals ret :: tables_1) room_1).applies x start1.e0.platform cz_bad = true :=
    (Spec.applies_iff rfl).mpr ⟨rfl, rfl, rfl, by decide +kernel, by decide +kernel, by decide +kernel, hroom, atoms_intro cz_words⟩
  have hrest : rest_1_c.before start1.args0 cz_bad = true := by decide +kernel
  have hpre : (Jvm.Cond.and given_1 narrow_1).before start1.args0 cz_bad = true := by decide +kernel
  exact ⟨hL, hW, ha, hl, hc, hk, rfl, by decide +kernel, by decide +kernel, happ, trivial, hrest, hpre⟩
/-- THE PRINTED STATEMENT'S OWN REFUTED FORM: every premise holds at this start, the call ends, and not as it says -/
theorem cz_falls_1 : RefutedClaimed_1_1 := by
  obtain ⟨n, a, hw, hs, he⟩ := cz_ends 80 cz_bad cz_runs
  refine ⟨launch0, start1.p0, start1.e0, cz_bad, ⟨0, 0⟩, start1.args0, Lib.HandBits.below0, rfl, cz_start, n, .threw a, hw, hs, he, ?_⟩
  rintro ⟨-, ⟨v, hv⟩, -⟩
  cases hv
theorem cz_falls_2 : RefutedClaimed_1_2 := by
  obtain ⟨n, a, hw, hs, he⟩ := cz_ends 80 cz_bad cz_runs
  refine ⟨launch0, start1.p0, start1.e0, cz_bad, ⟨0, 0⟩, start1.args0, Lib.HandBits.below0, rfl, cz_start, n, .threw a, hw, hs, he, ?_⟩
  rintro ⟨-, ⟨v, hv⟩, -⟩
  cases hv
/-- what falls so is not so: the machine runs one way -/
theorem cz_one {n n' : Nat} {a : Addr} {o : Outcome} (hw : ∀ k, k < n → Within (stepsAlone start1.p0.tables start1.e0 k cz_bad) Lib.HandBits.below0) (he : Ended (stepsAlone start1.p0.tables start1.e0 n cz_bad) Lib.HandBits.below0 (.threw a))
    (hw' : ∀ k, k < n' → Within (stepsAlone start1.p0.tables start1.e0 k cz_bad) Lib.HandBits.below0) (he' : Ended (stepsAlone start1.p0.tables start1.e0 n' cz_bad) Lib.HandBits.below0 o) : o = .threw a := by
  have hn : n = n' := by
    rcases Nat.lt_trichotomy n n' with h | h | h
    · exact absurd (hw' n h) he.not_within
    · exact h
    · exact absurd (hw n' h) he'.not_within
  subst hn
  exact he'.outcome_unique he
theorem cz_not_1 : ¬ Claimed_1_1 := by
  intro h
  obtain ⟨hL, hW, ha, hl, hc, hk, hf, hA, hH, happ, hcalls, hrest, hpre⟩ := cz_start
  obtain ⟨n', o, h1, h2, h3, -, ⟨v, hv⟩, -⟩ := h launch0 rfl hL hW start1.p0 start1.e0 ha hc hk cz_bad ⟨0, 0⟩ start1.args0 Lib.HandBits.below0 hf hA hH happ ⟨hcalls, hrest, hpre⟩
  obtain ⟨n, a, hw, hs, he⟩ := cz_ends 80 cz_bad cz_runs
  rw [cz_one hw he h1 h3] at hv
  cases hv
theorem cz_not_2 : ¬ Claimed_1_2 := by
  intro h
  obtain ⟨hL, hW, ha, hl, hc, hk, hf, hA, hH, happ, hcalls, hrest, hpre⟩ := cz_start
  obtain ⟨n', o, h1, h2, h3, -, ⟨v, hv⟩, -⟩ := h launch0 rfl hL hW start1.p0 start1.e0 ha hc hk cz_bad ⟨0, 0⟩ start1.args0 Lib.HandBits.below0 hf hA hH happ ⟨hcalls, hrest, hpre⟩
  obtain ⟨n, a, hw, hs, he⟩ := cz_ends 80 cz_bad cz_runs
  rw [cz_one hw he h1 h3] at hv
  cases hv
end Refuted
