theorem ry_words : ∀ c ∈ (Cond.code x code maxLocals ret :: tables_1), c.before start1.args0 ry_s = true := by
  intro c hc
  rcases List.mem_cons.mp hc with h | h
  · rw [h]; exact rx_code_word (s := start1.about) (k := ry_other) rfl start1.word_code
  · have h1 : c ∈ tables_1_1 ++ (tables_1_2 ++ (tables_1_3 ++ (tables_1_4 ++ tables_1_5))) := h
    simp only [List.mem_append] at h1
    rcases h1 with h | h | h | h | h
    · exact ry_words_1 c h
    · exact ry_words_2 c h
    · exact ry_words_3 c h
    · exact ry_words_4 c h
    · exact ry_words_5 c h
/-! Every premise of the Statement holds at ry_s. -/
set_option maxRecDepth 16384 in
theorem ry_start : AtStart classFile x code maxLocals ret World_1 tables_1 room_1 Calls_1 rest_1 Pre_1 launch0 start1.p0 start1.e0 ry_s ⟨0, 0⟩ start1.args0 Lib.HandBits.below0 := by
  have hrest : rest_1_c.before start1.args0 ry_s = true := by decide +kernel
  have hpre : (Cond.and given_1 narrow_1).before start1.args0 ry_s = true := by decide +kernel
  have hroom : ry_s.hasRoom (launch0.env 0 0 0).platform room_1 = true :=
    launch0.hasRoom_least _ room_1 (by decide +kernel) (by decide +kernel) (by decide +kernel) (by decide +kernel) (by decide +kernel) (by decide +kernel) (by decide +kernel)
  have happ : (headSpec (Cond.code x code maxLocals ret :: tables_1) room_1).applies x start1.e0.platform ry_s = true :=
    (Spec.applies_iff (m := ⟨0, 0⟩) (args := start1.args0) (below := Lib.HandBits.below0) rfl).mpr
      ⟨rfl, rfl, rfl, by decide +kernel, by decide +kernel, by decide +kernel, hroom, atoms_intro ry_words⟩
  exact ⟨lists_1, trivial, launch0.admits_env _ _ _, launch0.least_env, fairChoices_fair.cas, fairChoices_fair.clock, rfl, by decide +kernel, by decide +kernel, happ, trivial, hrest, hpre⟩
/-! The Statement's own printed forms: from ry_s the law ends, and not as claimed. -/
theorem ry_refuted_1 : RefutedClaimed_1_1 := by
  obtain ⟨n, a, hw, hs, he⟩ := ry_falls start1.p0.tables start1.e0 200 ry_s ry_runs
  refine ⟨launch0, start1.p0, start1.e0, ry_s, ⟨0, 0⟩, start1.args0, Lib.HandBits.below0, rfl, ry_start, n, .threw a, hw, hs, he, ?_⟩
  rintro ⟨-, ⟨v, hv⟩, -⟩
  cases hv
theorem ry_refuted_2 : RefutedClaimed_1_2 := by
  obtain ⟨n, a, hw, hs, he⟩ := ry_falls start1.p0.tables start1.e0 200 ry_s ry_runs
  refine ⟨launch0, start1.p0, start1.e0, ry_s, ⟨0, 0⟩, start1.args0, Lib.HandBits.below0, rfl, ry_start, n, .threw a, hw, hs, he, ?_⟩
  rintro ⟨-, ⟨v, hv⟩, -⟩
  cases hv
