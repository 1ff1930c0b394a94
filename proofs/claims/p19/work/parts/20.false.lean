theorem rx_words : ∀ c ∈ (Cond.code x code maxLocals ret :: tables_1), c.before start1.args0 rx_s = true := by
  intro c hc
  rcases List.mem_cons.mp hc with h | h
  · rw [h]; exact rx_code_word (s := start1.about) (k := rx_other) rfl start1.word_code
  · have h1 : c ∈ tables_1_1 ++ (tables_1_2 ++ (tables_1_3 ++ (tables_1_4 ++ tables_1_5))) := h
    simp only [List.mem_append] at h1
    rcases h1 with h | h | h | h | h
    · exact rx_words_1 c h
    · exact rx_words_2 c h
    · exact rx_words_3 c h
    · exact rx_words_4 c h
    · exact rx_words_5 c h
/-! Every premise of the Statement holds at rx_s. -/
set_option maxRecDepth 16384 in
theorem rx_start : AtStart classFile x code maxLocals ret World_1 tables_1 room_1 Calls_1 rest_1 Pre_1 launch0 start1.p0 start1.e0 rx_s ⟨0, 0⟩ start1.args0 Lib.HandBits.below0 := by
  have hrest : rest_1_c.before start1.args0 rx_s = true := by decide +kernel
  have hpre : (Cond.and given_1 narrow_1).before start1.args0 rx_s = true := by decide +kernel
  have hroom : rx_s.hasRoom (launch0.env 0 0 0).platform room_1 = true :=
    launch0.hasRoom_least _ room_1 (by decide +kernel) (by decide +kernel) (by decide +kernel) (by decide +kernel) (by decide +kernel) (by decide +kernel) (by decide +kernel)
  have happ : (headSpec (Cond.code x code maxLocals ret :: tables_1) room_1).applies x start1.e0.platform rx_s = true :=
    (Spec.applies_iff (m := ⟨0, 0⟩) (args := start1.args0) (below := Lib.HandBits.below0) rfl).mpr
      ⟨rfl, rfl, rfl, by decide +kernel, by decide +kernel, by decide +kernel, hroom, atoms_intro rx_words⟩
  exact ⟨lists_1, trivial, launch0.admits_env _ _ _, launch0.least_env, fairChoices_fair.cas, fairChoices_fair.clock, rfl, by decide +kernel, by decide +kernel, happ, trivial, hrest, hpre⟩
/-! From rx_s the law never ends: neither half of the claim holds. -/
theorem rx_never {Post : Tables → Env → Array Value → State → Outcome → State → Prop} :
    ¬ ArmFor flags0 classFile x code maxLocals ret World_1 tables_1 room_1 Calls_1 rest_1 Pre_1 Post := by
  intro h
  obtain ⟨hL, hW, had, -, hcas, hclk, hfr, hfit, hheap, happ, hcalls, hrest, hpre⟩ := rx_start
  obtain ⟨n, o, -, -, hend, -⟩ := h launch0 rfl hL hW start1.p0 start1.e0 had hcas hclk rx_s ⟨0, 0⟩ start1.args0 Lib.HandBits.below0 hfr hfit hheap happ ⟨hcalls, hrest, hpre⟩
  exact rx_not_ended (rx_forever start1.p0 start1.e0 120 rx_s rx_runs n) hend
theorem rx_false_1 : ¬ Claimed_1_1 := rx_never
theorem rx_false_2 : ¬ Claimed_1_2 := rx_never
theorem rx_owed_is_false : ¬ (Claimed_1_1 ∧ Claimed_1_2) := fun h => rx_false_1 h.1
/-! What the Statement does not say of FIRST, and says of ArrayList's empty array: it is false at rx_s, and true at the witness's start. -/
set_option maxRecDepth 16384 in
theorem rx_exactly_here : (Cond.exactly (Term.static "EvenGranary$Edict" "FIRST" "[I") "[I").before start1.args0 rx_s = false := by decide +kernel
set_option maxRecDepth 16384 in
theorem rx_exactly_there : (Cond.exactly (Term.static "EvenGranary$Edict" "FIRST" "[I") "[I").before start1.args0 start1.about = true := by decide +kernel
