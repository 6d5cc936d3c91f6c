section Refuted
theorem ct_words : ∀ c ∈ (Jvm.Cond.code x code maxLocals ret :: tables_1), c.before start1.args0 ct_bad = true := by
  intro c hc
  simp only [tables_1, List.mem_cons, List.mem_append] at hc
  rcases hc with h | h | h | h | h | h
  · rw [h]; exact ct_code start1.word_code
  · exact ct_w_1 c h
  · exact ct_w_2 c h
  · exact ct_w_3 c h
  · exact ct_w_4 c h
  · exact ct_w_5 c h
set_option maxRecDepth 16384 in
/-- every premise of the printed statement holds at ct_bad -/
theorem ct_start : Jvm.D.AtStart classFile x code maxLocals ret World_1 tables_1 room_1 Calls_1 rest_1 Pre_1 launch0 start1.p0 start1.e0 ct_bad ⟨0, 0⟩ start1.args0 Lib.HandBits.below0 := by
  obtain ⟨hL, hW, ha, hl, hc, hk, -⟩ := start1.atStart
  have hroom : ct_bad.hasRoom start1.e0.platform room_1 = true := launch0.hasRoom_least _ room_1 (by decide +kernel) (by decide +kernel) (by decide +kernel) (by decide +kernel) (by decide +kernel) (by decide +kernel)
  have happ : (Jvm.D.headSpec (Jvm.Cond.code x code maxLocals ret :: tables_1) room_1).applies x start1.e0.platform ct_bad = true :=
    (Spec.applies_iff rfl).mpr ⟨rfl, rfl, rfl, by decide +kernel, by decide +kernel, by decide +kernel, hroom, atoms_intro ct_words⟩
  have hrest : rest_1_c.before start1.args0 ct_bad = true := by decide +kernel
  have hpre : (Jvm.Cond.and given_1 narrow_1).before start1.args0 ct_bad = true := by decide +kernel
  exact ⟨hL, hW, ha, hl, hc, hk, rfl, by decide +kernel, by decide +kernel, happ, trivial, hrest, hpre⟩
/-- THE CLAIM IS FALSE AS PRINTED: at this start every premise holds, and the law never comes back -/
theorem ct_false : ¬ Claimed_1_1 := by
  intro h
  obtain ⟨hL, hW, ha, hl, hc, hk, hf, hA, hH, happ, hcalls, hrest, hpre⟩ := ct_start
  obtain ⟨n, o, h1, h2, h3, h4⟩ := h launch0 rfl hL hW start1.p0 start1.e0 ha hc hk ct_bad ⟨0, 0⟩ start1.args0 Lib.HandBits.below0 hf hA hH happ ⟨hcalls, hrest, hpre⟩
  exact ct_in_not (ct_never 40 ct_bad ct_runs n) o h3
theorem ct_unprovable : ¬ (Claimed_1_1 ∧ Claimed_1_2) := fun h => ct_false h.1
end Refuted
