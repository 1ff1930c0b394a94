section
/-! A start that the Statement allows, at which the law never ends.
It is the witness's own start (named, not copied) with one entry more in the table of loaded kinds: number 40, named "[other", an array of int by its kind, which has a clone() of its own that runs for ever.
The static FIRST is an array of that kind: length 8, the same eight ints. Nothing else differs. -/
def rx_loop : ByteArray := ⟨#[0xa7, 0x00, 0x00]⟩
def rx_other : Class := { start1.cArr "[other" 31 .int with
  methods := #[Lib.HandJ.method "clone" "()Ljava/lang/Object;" [] (some (.object "java/lang/Object")) 0x1 1 rx_loop] }
def rx_s : State := { start1.about with
  vm := { start1.about.vm with classes := start1.about.vm.classes.push rx_other },
  heap := start1.about.heap.modify 6 fun c => { c with cls := 40 } }
/-! Not ended: the top is no exception under way, and more than one frame stands. -/
def rx_in : List Frame → Bool
  | .throwing _ :: _ => false
  | _ :: _ :: _ => true
  | _ => false
/-! At an instruction that jumps to itself. -/
def rx_at (s : State) : Bool := match s.frames with
  | .java f :: _ :: _ => ((s.vm.classes[f.method.cls]?).all fun k => plainName k.name) &&
    (match s.code? f.method with
     | some c => (match decode c.code f.pc with
       | .ok (.goto off, _) => decide (off = 0)
       | _ => false)
     | none => false)
  | _ => false
def rx_run (tb : Tables) (e : Env) : Nat → State → Bool
  | 0, _ => false
  | n + 1, s => match rx_at s with
    | true => true
    | false => match rx_in s.frames with
      | true => rx_run tb e n (stepThread tb e s).1
      | false => false
theorem rx_at_in {s : State} (h : rx_at s = true) : rx_in s.frames = true := by
  unfold rx_at at h
  split at h
  · rename_i f g r hf
    rw [hf]; rfl
  · cases h
theorem rx_stay (p : Program) (e : Env) (s : State) (h : rx_at s = true) : (stepThread p.tables e s).1 = s := by
  unfold rx_at at h
  split at h
  · rename_i f g r hf
    rw [Bool.and_eq_true] at h
    obtain ⟨h2, h3⟩ := h
    split at h3
    · rename_i c hc
      split at h3
      · rename_i off len hd
        have ho : off = 0 := of_decide_eq_true h3
        subst ho
        have hpl : s.plainMethod f.method := State.plainMethod.of_name (by intro k hk; rw [hk] at h2; simpa using h2)
        have hex : p.tables.exec = Jvm.exec := by cases p <;> rfl
        rw [stepThread_java hf hpl hc hd, hex]
        obtain ⟨as, hr⟩ : ∃ as, (Jvm.exec (.goto 0)).run e s = .ctl (.branch 0) s as := ⟨_, rfl⟩
        rw [hr]
        have ht := State.topJava?_of_frames hf
        have hn : ¬ ((f.pc : Int) + 0 < 0) := by omega
        simp only [afterInstr, ht, if_neg hn]
        rw [State.modifyTopJava_eq_setTop _ ht]
        have hg : ({ f with pc := ((f.pc : Int) + 0).toNat } : JFrame) = f := by
          have : ((f.pc : Int) + 0).toNat = f.pc := by omega
          rw [this]
        rw [hg]
        exact State.setTop_self ht
      · cases h3
    · cases h3
  · cases h
theorem rx_stays {tb : Tables} {e : Env} {s : State} (h : (stepThread tb e s).1 = s) : ∀ n, stepsAlone tb e n s = s
  | 0 => rfl
  | n + 1 => by
    unfold stepsAlone
    split
    · rw [h]; exact rx_stays h n
    · rfl
theorem rx_forever (p : Program) (e : Env) : ∀ (n : Nat) (s : State), rx_run p.tables e n s = true → ∀ k, rx_in (stepsAlone p.tables e k s).frames = true := by
  intro n
  induction n with
  | zero => intro s h; cases h
  | succ n ih =>
    intro s h k
    unfold rx_run at h
    split at h
    · rename_i ha
      rw [rx_stays (rx_stay p e s ha) k]
      exact rx_at_in ha
    · split at h
      · rename_i hi
        cases k with
        | zero => exact hi
        | succ k =>
          unfold stepsAlone
          split
          · exact ih _ h k
          · exact hi
      · cases h
theorem rx_not_ended {s : State} {o : Outcome} (h : rx_in s.frames = true) : ¬ Ended s Lib.HandBits.below0 o := by
  intro hE
  cases o with
  | threw a =>
    have hE : s.frames = .throwing a :: Lib.HandBits.below0 := hE
    rw [hE] at h; cases h
  | returned v =>
    have hE : s.frames = .native { method := ⟨0, 0⟩, args := #[], awaiting := false, answer := some (.returned v) } :: [] := hE
    rw [hE] at h; cases h
/-! A word on bytecode that holds of one table of loaded kinds holds of that table with one entry more. -/
theorem rx_code_word {a : Array Value} {s t : State} {k : Class} (hc : t.vm.classes = s.vm.classes.push k) {y : MethodName} {b : ByteArray} {n : Nat} {r : Option FieldType}
    (h : (Cond.code y b n r).before a s = true) : (Cond.code y b n r).before a t = true := by
  have hget : ∀ (i : Nat) (q : Class), s.vm.classes[i]? = some q → t.vm.classes[i]? = some q := by
    intro i q hq
    have hlt : i < s.vm.classes.size := (Array.getElem?_eq_some_iff.mp hq).1
    rw [hc, Array.getElem?_push_lt hlt]
    exact (Array.getElem?_eq_some_iff.mp hq).2 ▸ rfl
  have hfind : ∀ (nm : String) (i : Nat), s.vm.findClass nm = some i → t.vm.findClass nm = some i := by
    intro nm i hi
    unfold Vm.findClass at hi ⊢
    rw [hc, Array.findIdx?_push, hi]; rfl
  have hmeth : ∀ (m : MethodId) (me : Method), s.vm.method? m = some me → t.vm.method? m = some me := by
    intro m me hm
    unfold Vm.method? at hm ⊢
    cases hq : s.vm.classes[m.cls]? with
    | none => rw [hq] at hm; cases hm
    | some q => rw [hq] at hm; rw [hget _ _ hq]; exact hm
  have hname : ∀ (m : MethodId), s.methodNamed? y = some m → t.methodNamed? y = some m := by
    intro m hm
    unfold State.methodNamed? at hm ⊢
    cases hi : s.vm.findClass y.cls with
    | none => rw [hi] at hm; cases hm
    | some i =>
      rw [hi] at hm; rw [hfind _ _ hi]
      simp only [Option.bind_eq_bind, Option.bind_some] at hm ⊢
      cases hq : s.vm.classes[i]? with
      | none => rw [hq] at hm; cases hm
      | some q => rw [hq] at hm; rw [hget _ _ hq]; exact hm
  cases hm : s.methodNamed? y with
  | none => simp [Cond.before, Cond.holds, Cond.value, hm] at h
  | some m =>
    cases hq : s.vm.method? m with
    | none => simp [Cond.before, Cond.holds, Cond.value, hm, hq] at h
    | some me =>
      have e1 := hname m hm
      have e2 := hmeth m me hq
      simp only [Cond.before, Cond.holds, Cond.value, hm, hq, Option.bind_some] at h
      simp only [Cond.before, Cond.holds, Cond.value, e1, e2, Option.bind_some]
      exact h
theorem rx_codes {L : List Jvm.Cond} (h : ∀ c ∈ L, c.before start1.args0 start1.about = true) : ∀ c ∈ L.filter su_isCode, c.before start1.args0 rx_s = true := by
  intro c hc
  obtain ⟨h1, h2⟩ := List.mem_filter.mp hc
  cases c <;> first | (simp only [su_isCode] at h2; cases h2; done) | exact rx_code_word (s := start1.about) (k := rx_other) rfl (h _ h1)
end
section
set_option maxRecDepth 16384 in
theorem rx_runs : rx_run start1.p0.tables start1.e0 120 rx_s = true := by decide +kernel
end
section
set_option maxRecDepth 16384 in
theorem rx_o_1_0 : ((tables_1_1).take 30).all (fun c => su_isCode c || c.before start1.args0 rx_s) = true := by decide +kernel
set_option maxRecDepth 16384 in
theorem rx_o_1_1 : (((tables_1_1).drop 30).take 30).all (fun c => su_isCode c || c.before start1.args0 rx_s) = true := by decide +kernel
set_option maxRecDepth 16384 in
theorem rx_o_1_2 : ((((tables_1_1).drop 30).drop 30).take 30).all (fun c => su_isCode c || c.before start1.args0 rx_s) = true := by decide +kernel
set_option maxRecDepth 16384 in
theorem rx_o_1_3 : (((((tables_1_1).drop 30).drop 30).drop 30).take 30).all (fun c => su_isCode c || c.before start1.args0 rx_s) = true := by decide +kernel
set_option maxRecDepth 16384 in
theorem rx_o_1_4 : ((((((tables_1_1).drop 30).drop 30).drop 30).drop 30).take 30).all (fun c => su_isCode c || c.before start1.args0 rx_s) = true := by decide +kernel
set_option maxRecDepth 16384 in
theorem rx_o_1_5 : (((((((tables_1_1).drop 30).drop 30).drop 30).drop 30).drop 30).take 30).all (fun c => su_isCode c || c.before start1.args0 rx_s) = true := by decide +kernel
set_option maxRecDepth 16384 in
theorem rx_o_1_6 : ((((((((tables_1_1).drop 30).drop 30).drop 30).drop 30).drop 30).drop 30).take 30).all (fun c => su_isCode c || c.before start1.args0 rx_s) = true := by decide +kernel
set_option maxRecDepth 16384 in
theorem rx_o_1_7 : ((((((((tables_1_1).drop 30).drop 30).drop 30).drop 30).drop 30).drop 30).drop 30).all (fun c => su_isCode c || c.before start1.args0 rx_s) = true := by decide +kernel
theorem rx_others_1 : (tables_1_1).all (fun c => su_isCode c || c.before start1.args0 rx_s) = true := (start1.su_all_split _ 30 (tables_1_1) rx_o_1_0 (start1.su_all_split _ 30 ((tables_1_1).drop 30) rx_o_1_1 (start1.su_all_split _ 30 (((tables_1_1).drop 30).drop 30) rx_o_1_2 (start1.su_all_split _ 30 ((((tables_1_1).drop 30).drop 30).drop 30) rx_o_1_3 (start1.su_all_split _ 30 (((((tables_1_1).drop 30).drop 30).drop 30).drop 30) rx_o_1_4 (start1.su_all_split _ 30 ((((((tables_1_1).drop 30).drop 30).drop 30).drop 30).drop 30) rx_o_1_5 (start1.su_all_split _ 30 (((((((tables_1_1).drop 30).drop 30).drop 30).drop 30).drop 30).drop 30) rx_o_1_6 rx_o_1_7)))))))
theorem rx_words_1 : ∀ c ∈ tables_1_1, c.before start1.args0 rx_s = true := su_words rx_others_1 (rx_codes start1.words_1)
end
section
set_option maxRecDepth 16384 in
theorem rx_o_2_0 : ((tables_1_2).take 30).all (fun c => su_isCode c || c.before start1.args0 rx_s) = true := by decide +kernel
set_option maxRecDepth 16384 in
theorem rx_o_2_1 : (((tables_1_2).drop 30).take 30).all (fun c => su_isCode c || c.before start1.args0 rx_s) = true := by decide +kernel
set_option maxRecDepth 16384 in
theorem rx_o_2_2 : ((((tables_1_2).drop 30).drop 30).take 30).all (fun c => su_isCode c || c.before start1.args0 rx_s) = true := by decide +kernel
set_option maxRecDepth 16384 in
theorem rx_o_2_3 : (((((tables_1_2).drop 30).drop 30).drop 30).take 30).all (fun c => su_isCode c || c.before start1.args0 rx_s) = true := by decide +kernel
set_option maxRecDepth 16384 in
theorem rx_o_2_4 : ((((((tables_1_2).drop 30).drop 30).drop 30).drop 30).take 30).all (fun c => su_isCode c || c.before start1.args0 rx_s) = true := by decide +kernel
set_option maxRecDepth 16384 in
theorem rx_o_2_5 : (((((((tables_1_2).drop 30).drop 30).drop 30).drop 30).drop 30).take 30).all (fun c => su_isCode c || c.before start1.args0 rx_s) = true := by decide +kernel
set_option maxRecDepth 16384 in
theorem rx_o_2_6 : ((((((((tables_1_2).drop 30).drop 30).drop 30).drop 30).drop 30).drop 30).take 30).all (fun c => su_isCode c || c.before start1.args0 rx_s) = true := by decide +kernel
set_option maxRecDepth 16384 in
theorem rx_o_2_7 : ((((((((tables_1_2).drop 30).drop 30).drop 30).drop 30).drop 30).drop 30).drop 30).all (fun c => su_isCode c || c.before start1.args0 rx_s) = true := by decide +kernel
theorem rx_others_2 : (tables_1_2).all (fun c => su_isCode c || c.before start1.args0 rx_s) = true := (start1.su_all_split _ 30 (tables_1_2) rx_o_2_0 (start1.su_all_split _ 30 ((tables_1_2).drop 30) rx_o_2_1 (start1.su_all_split _ 30 (((tables_1_2).drop 30).drop 30) rx_o_2_2 (start1.su_all_split _ 30 ((((tables_1_2).drop 30).drop 30).drop 30) rx_o_2_3 (start1.su_all_split _ 30 (((((tables_1_2).drop 30).drop 30).drop 30).drop 30) rx_o_2_4 (start1.su_all_split _ 30 ((((((tables_1_2).drop 30).drop 30).drop 30).drop 30).drop 30) rx_o_2_5 (start1.su_all_split _ 30 (((((((tables_1_2).drop 30).drop 30).drop 30).drop 30).drop 30).drop 30) rx_o_2_6 rx_o_2_7)))))))
theorem rx_words_2 : ∀ c ∈ tables_1_2, c.before start1.args0 rx_s = true := su_words rx_others_2 (rx_codes start1.words_2)
end
section
set_option maxRecDepth 16384 in
theorem rx_o_3_0 : ((tables_1_3).take 30).all (fun c => su_isCode c || c.before start1.args0 rx_s) = true := by decide +kernel
set_option maxRecDepth 16384 in
theorem rx_o_3_1 : (((tables_1_3).drop 30).take 30).all (fun c => su_isCode c || c.before start1.args0 rx_s) = true := by decide +kernel
set_option maxRecDepth 16384 in
theorem rx_o_3_2 : ((((tables_1_3).drop 30).drop 30).take 30).all (fun c => su_isCode c || c.before start1.args0 rx_s) = true := by decide +kernel
set_option maxRecDepth 16384 in
theorem rx_o_3_3 : (((((tables_1_3).drop 30).drop 30).drop 30).take 30).all (fun c => su_isCode c || c.before start1.args0 rx_s) = true := by decide +kernel
set_option maxRecDepth 16384 in
theorem rx_o_3_4 : ((((((tables_1_3).drop 30).drop 30).drop 30).drop 30).take 30).all (fun c => su_isCode c || c.before start1.args0 rx_s) = true := by decide +kernel
set_option maxRecDepth 16384 in
theorem rx_o_3_5 : (((((((tables_1_3).drop 30).drop 30).drop 30).drop 30).drop 30).take 30).all (fun c => su_isCode c || c.before start1.args0 rx_s) = true := by decide +kernel
set_option maxRecDepth 16384 in
theorem rx_o_3_6 : ((((((((tables_1_3).drop 30).drop 30).drop 30).drop 30).drop 30).drop 30).take 30).all (fun c => su_isCode c || c.before start1.args0 rx_s) = true := by decide +kernel
set_option maxRecDepth 16384 in
theorem rx_o_3_7 : ((((((((tables_1_3).drop 30).drop 30).drop 30).drop 30).drop 30).drop 30).drop 30).all (fun c => su_isCode c || c.before start1.args0 rx_s) = true := by decide +kernel
theorem rx_others_3 : (tables_1_3).all (fun c => su_isCode c || c.before start1.args0 rx_s) = true := (start1.su_all_split _ 30 (tables_1_3) rx_o_3_0 (start1.su_all_split _ 30 ((tables_1_3).drop 30) rx_o_3_1 (start1.su_all_split _ 30 (((tables_1_3).drop 30).drop 30) rx_o_3_2 (start1.su_all_split _ 30 ((((tables_1_3).drop 30).drop 30).drop 30) rx_o_3_3 (start1.su_all_split _ 30 (((((tables_1_3).drop 30).drop 30).drop 30).drop 30) rx_o_3_4 (start1.su_all_split _ 30 ((((((tables_1_3).drop 30).drop 30).drop 30).drop 30).drop 30) rx_o_3_5 (start1.su_all_split _ 30 (((((((tables_1_3).drop 30).drop 30).drop 30).drop 30).drop 30).drop 30) rx_o_3_6 rx_o_3_7)))))))
theorem rx_words_3 : ∀ c ∈ tables_1_3, c.before start1.args0 rx_s = true := su_words rx_others_3 (rx_codes start1.words_3)
end
section
set_option maxRecDepth 16384 in
theorem rx_o_4_0 : ((tables_1_4).take 30).all (fun c => su_isCode c || c.before start1.args0 rx_s) = true := by decide +kernel
set_option maxRecDepth 16384 in
theorem rx_o_4_1 : (((tables_1_4).drop 30).take 30).all (fun c => su_isCode c || c.before start1.args0 rx_s) = true := by decide +kernel
set_option maxRecDepth 16384 in
theorem rx_o_4_2 : ((((tables_1_4).drop 30).drop 30).take 30).all (fun c => su_isCode c || c.before start1.args0 rx_s) = true := by decide +kernel
set_option maxRecDepth 16384 in
theorem rx_o_4_3 : (((((tables_1_4).drop 30).drop 30).drop 30).take 30).all (fun c => su_isCode c || c.before start1.args0 rx_s) = true := by decide +kernel
set_option maxRecDepth 16384 in
theorem rx_o_4_4 : ((((((tables_1_4).drop 30).drop 30).drop 30).drop 30).take 30).all (fun c => su_isCode c || c.before start1.args0 rx_s) = true := by decide +kernel
set_option maxRecDepth 16384 in
theorem rx_o_4_5 : (((((((tables_1_4).drop 30).drop 30).drop 30).drop 30).drop 30).take 30).all (fun c => su_isCode c || c.before start1.args0 rx_s) = true := by decide +kernel
set_option maxRecDepth 16384 in
theorem rx_o_4_6 : ((((((((tables_1_4).drop 30).drop 30).drop 30).drop 30).drop 30).drop 30).take 30).all (fun c => su_isCode c || c.before start1.args0 rx_s) = true := by decide +kernel
set_option maxRecDepth 16384 in
theorem rx_o_4_7 : ((((((((tables_1_4).drop 30).drop 30).drop 30).drop 30).drop 30).drop 30).drop 30).all (fun c => su_isCode c || c.before start1.args0 rx_s) = true := by decide +kernel
theorem rx_others_4 : (tables_1_4).all (fun c => su_isCode c || c.before start1.args0 rx_s) = true := (start1.su_all_split _ 30 (tables_1_4) rx_o_4_0 (start1.su_all_split _ 30 ((tables_1_4).drop 30) rx_o_4_1 (start1.su_all_split _ 30 (((tables_1_4).drop 30).drop 30) rx_o_4_2 (start1.su_all_split _ 30 ((((tables_1_4).drop 30).drop 30).drop 30) rx_o_4_3 (start1.su_all_split _ 30 (((((tables_1_4).drop 30).drop 30).drop 30).drop 30) rx_o_4_4 (start1.su_all_split _ 30 ((((((tables_1_4).drop 30).drop 30).drop 30).drop 30).drop 30) rx_o_4_5 (start1.su_all_split _ 30 (((((((tables_1_4).drop 30).drop 30).drop 30).drop 30).drop 30).drop 30) rx_o_4_6 rx_o_4_7)))))))
theorem rx_words_4 : ∀ c ∈ tables_1_4, c.before start1.args0 rx_s = true := su_words rx_others_4 (rx_codes start1.words_4)
end
section
set_option maxRecDepth 16384 in
theorem rx_o_5_0 : ((tables_1_5).take 30).all (fun c => su_isCode c || c.before start1.args0 rx_s) = true := by decide +kernel
set_option maxRecDepth 16384 in
theorem rx_o_5_1 : (((tables_1_5).drop 30).take 30).all (fun c => su_isCode c || c.before start1.args0 rx_s) = true := by decide +kernel
set_option maxRecDepth 16384 in
theorem rx_o_5_2 : ((((tables_1_5).drop 30).drop 30).take 30).all (fun c => su_isCode c || c.before start1.args0 rx_s) = true := by decide +kernel
set_option maxRecDepth 16384 in
theorem rx_o_5_3 : (((((tables_1_5).drop 30).drop 30).drop 30).take 30).all (fun c => su_isCode c || c.before start1.args0 rx_s) = true := by decide +kernel
set_option maxRecDepth 16384 in
theorem rx_o_5_4 : ((((((tables_1_5).drop 30).drop 30).drop 30).drop 30).take 30).all (fun c => su_isCode c || c.before start1.args0 rx_s) = true := by decide +kernel
set_option maxRecDepth 16384 in
theorem rx_o_5_5 : ((((((tables_1_5).drop 30).drop 30).drop 30).drop 30).drop 30).all (fun c => su_isCode c || c.before start1.args0 rx_s) = true := by decide +kernel
theorem rx_others_5 : (tables_1_5).all (fun c => su_isCode c || c.before start1.args0 rx_s) = true := (start1.su_all_split _ 30 (tables_1_5) rx_o_5_0 (start1.su_all_split _ 30 ((tables_1_5).drop 30) rx_o_5_1 (start1.su_all_split _ 30 (((tables_1_5).drop 30).drop 30) rx_o_5_2 (start1.su_all_split _ 30 ((((tables_1_5).drop 30).drop 30).drop 30) rx_o_5_3 (start1.su_all_split _ 30 (((((tables_1_5).drop 30).drop 30).drop 30).drop 30) rx_o_5_4 rx_o_5_5)))))
theorem rx_words_5 : ∀ c ∈ tables_1_5, c.before start1.args0 rx_s = true := su_words rx_others_5 (rx_codes start1.words_5)
end
section
theorem rx_words : ∀ c ∈ (Cond.code x code maxLocals ret :: tables_1), c.before start1.args0 rx_s = true := by
  intro c hc
  rcases List.mem_cons.mp hc with h | h
  · rw [h]; exact rx_code_word (s := start1.about) (k := rx_other) rfl start1.word_code
  · have h1 : c ∈ tables_1_1 ++ (tables_1_2 ++ (tables_1_3 ++ (tables_1_4 ++ tables_1_5))) := h
    simp only [List.mem_append] at h1
    rcases h1 with h | h | h | h | h
    · exact rx_words_1 c h
    · exact rx_words_2 c h
    · exact rx_words_3 c h
    · exact rx_words_4 c h
    · exact rx_words_5 c h
/-! Every premise of the Statement holds at rx_s. -/
set_option maxRecDepth 16384 in
theorem rx_start : AtStart classFile x code maxLocals ret World_1 tables_1 room_1 Calls_1 rest_1 Pre_1 launch0 start1.p0 start1.e0 rx_s ⟨0, 0⟩ start1.args0 Lib.HandBits.below0 := by
  have hrest : rest_1_c.before start1.args0 rx_s = true := by decide +kernel
  have hpre : (Cond.and given_1 narrow_1).before start1.args0 rx_s = true := by decide +kernel
  have hroom : rx_s.hasRoom (launch0.env 0 0 0).platform room_1 = true :=
    launch0.hasRoom_least _ room_1 (by decide +kernel) (by decide +kernel) (by decide +kernel) (by decide +kernel) (by decide +kernel) (by decide +kernel) (by decide +kernel)
  have happ : (headSpec (Cond.code x code maxLocals ret :: tables_1) room_1).applies x start1.e0.platform rx_s = true :=
    (Spec.applies_iff (m := ⟨0, 0⟩) (args := start1.args0) (below := Lib.HandBits.below0) rfl).mpr
      ⟨rfl, rfl, rfl, by decide +kernel, by decide +kernel, by decide +kernel, hroom, atoms_intro rx_words⟩
  exact ⟨lists_1, trivial, launch0.admits_env _ _ _, launch0.least_env, fairChoices_fair.cas, fairChoices_fair.clock, rfl, by decide +kernel, by decide +kernel, happ, trivial, hrest, hpre⟩
/-! From rx_s the law never ends: neither half of the claim holds. -/
theorem rx_never {Post : Tables → Env → Array Value → State → Outcome → State → Prop} :
    ¬ ArmFor flags0 classFile x code maxLocals ret World_1 tables_1 room_1 Calls_1 rest_1 Pre_1 Post := by
  intro h
  obtain ⟨hL, hW, had, -, hcas, hclk, hfr, hfit, hheap, happ, hcalls, hrest, hpre⟩ := rx_start
  obtain ⟨n, o, -, -, hend, -⟩ := h launch0 rfl hL hW start1.p0 start1.e0 had hcas hclk rx_s ⟨0, 0⟩ start1.args0 Lib.HandBits.below0 hfr hfit hheap happ ⟨hcalls, hrest, hpre⟩
  exact rx_not_ended (rx_forever start1.p0 start1.e0 120 rx_s rx_runs n) hend
theorem rx_false_1 : ¬ Claimed_1_1 := rx_never
theorem rx_false_2 : ¬ Claimed_1_2 := rx_never
theorem rx_owed_is_false : ¬ (Claimed_1_1 ∧ Claimed_1_2) := fun h => rx_false_1 h.1
/-! What the Statement does not say of FIRST, and says of ArrayList's empty array: it is false at rx_s, and true at the witness's start. -/
set_option maxRecDepth 16384 in
theorem rx_exactly_here : (Cond.exactly (Term.static "EvenGranary$Edict" "FIRST" "[I") "[I").before start1.args0 rx_s = false := by decide +kernel
set_option maxRecDepth 16384 in
theorem rx_exactly_there : (Cond.exactly (Term.static "EvenGranary$Edict" "FIRST" "[I") "[I").before start1.args0 start1.about = true := by decide +kernel
end
section
/-! The printed form of the refutation: a start that the Statement allows, from which the law ENDS, by an exception.
As rx_s, but that the clone() of the entry "[other" throws the array itself (aload_0, athrow). -/
def ry_code : ByteArray := ⟨#[0x2a, 0xbf]⟩
def ry_other : Class := { start1.cArr "[other" 31 .int with
  methods := #[Lib.HandJ.method "clone" "()Ljava/lang/Object;" [] (some (.object "java/lang/Object")) 0x1 1 ry_code] }
def ry_s : State := { start1.about with
  vm := { start1.about.vm with classes := start1.about.vm.classes.push ry_other },
  heap := start1.about.heap.modify 6 fun c => { c with cls := 40 } }
/-! The one frame of below0. -/
def ry_is0 : Frame → Bool
  | .native g => decide (g.method = ⟨0, 0⟩) && g.args.isEmpty && decide (g.stage = 0) && g.saved.isEmpty && !g.awaiting && g.answer.isNone && g.locked.isNone && decide (g.words = 0)
  | _ => false
theorem ry_is0_eq {f : Frame} (h : ry_is0 f = true) : [f] = Lib.HandBits.below0 := by
  cases f with
  | native g =>
    obtain ⟨m, ar, st, sv, aw, an, lo, wo⟩ := g
    simp only [ry_is0, Bool.and_eq_true, decide_eq_true_eq, Array.isEmpty_iff, Bool.not_eq_true', Option.isNone_iff_eq_none] at h
    obtain ⟨⟨⟨⟨⟨⟨⟨h1, h2⟩, h3⟩, h4⟩, h5⟩, h6⟩, h7⟩, h8⟩ := h
    subst h1 h2 h3 h4 h5 h6 h7 h8
    rfl
  | _ => cases h
def ry_low : List Frame → Bool
  | [] => false
  | f :: r => match r with
    | [] => ry_is0 f
    | _ :: _ => ry_low r
theorem ry_low_eq : ∀ {fs : List Frame}, ry_low fs = true → ∃ above, fs = above ++ Lib.HandBits.below0
  | [], h => by cases h
  | [f], h => ⟨[], by rw [List.nil_append]; exact ry_is0_eq h⟩
  | f :: g :: r, h => by
    obtain ⟨ab, hab⟩ := ry_low_eq (fs := g :: r) h
    exact ⟨f :: ab, by rw [hab, List.cons_append]⟩
/-! Under way above below0. -/
def ry_in : List Frame → Bool
  | [] => false
  | a :: r => match r with
    | [] => false
    | [b] => (match a with | .throwing _ => false | _ => true) && ry_is0 b
    | _ :: _ :: _ => ry_low r
theorem ry_within {s : State} (h : ry_in s.frames = true) : Within s Lib.HandBits.below0 := by
  match hf : s.frames with
  | [] => rw [hf] at h; cases h
  | [a] => rw [hf] at h; cases h
  | [a, b] =>
    rw [hf] at h
    simp only [ry_in, Bool.and_eq_true] at h
    obtain ⟨h1, h2⟩ := h
    refine ⟨[a], ?_, by simp, ?_⟩
    · rw [hf, ← ry_is0_eq h2]; rfl
    · intro x hx
      injection hx with hx _
      subst hx
      cases h1
  | a :: b :: c :: r =>
    rw [hf] at h
    have h : ry_low (b :: c :: r) = true := h
    obtain ⟨ab, hab⟩ := ry_low_eq h
    have hl : ab ≠ [] := by
      intro h0
      have := congrArg List.length hab
      rw [h0] at this
      simp [Lib.HandBits.below0] at this
    refine ⟨a :: ab, ?_, by simp, ?_⟩
    · rw [hf, hab, List.cons_append]
    · intro x hx
      injection hx with _ hx
      exact hl hx
/-! Ended by an exception. -/
def ry_done (s : State) : Option Addr := match s.frames with
  | [.throwing a, b] => if ry_is0 b && decide (s.status = .running) then some a else none
  | _ => none
def ry_fall (tb : Tables) (e : Env) : Nat → State → Bool
  | 0, _ => false
  | n + 1, s => match ry_done s with
    | some _ => true
    | none => match ry_in s.frames with
      | false => false
      | true => match s.status, s.curStatus?, s.alone with
        | .running, some .runnable, true => ry_fall tb e n (stepThread tb e s).1
        | _, _, _ => false
theorem ry_done_eq {s : State} {a : Addr} (h : ry_done s = some a) : s.status = .running ∧ s.frames = .throwing a :: Lib.HandBits.below0 := by
  unfold ry_done at h
  split at h
  · rename_i x b hf
    split at h
    · rename_i hb
      rw [Bool.and_eq_true] at hb
      cases h
      exact ⟨of_decide_eq_true hb.2, by rw [hf, ← ry_is0_eq hb.1]⟩
    · cases h
  · cases h
theorem ry_falls (tb : Tables) (e : Env) : ∀ (N : Nat) (s : State), ry_fall tb e N s = true →
    ∃ (n : Nat) (a : Addr), (∀ k, k < n → Within (stepsAlone tb e k s) Lib.HandBits.below0) ∧ (stepsAlone tb e n s).status = Status.running ∧ Ended (stepsAlone tb e n s) Lib.HandBits.below0 (.threw a) := by
  intro N
  induction N with
  | zero => intro s h; cases h
  | succ N ih =>
    intro s h
    unfold ry_fall at h
    split at h
    · rename_i a ha
      obtain ⟨h1, h2⟩ := ry_done_eq ha
      exact ⟨0, a, fun k hk => absurd hk (Nat.not_lt_zero k), h1, h2⟩
    · split at h
      · cases h
      · rename_i hi
        split at h
        · rename_i h1 h2 h3
          obtain ⟨n, a, hw, hs, he⟩ := ih _ h
          have hstep : ∀ k, stepsAlone tb e (k + 1) s = stepsAlone tb e k (stepThread tb e s).1 := by
            intro k
            rw [stepsAlone, h1, h2, h3]
          refine ⟨n + 1, a, ?_, ?_, ?_⟩
          · intro k hk
            cases k with
            | zero => exact ry_within hi
            | succ k => rw [hstep]; exact hw k (Nat.lt_of_succ_lt_succ hk)
          · rw [hstep]; exact hs
          · rw [hstep]; exact he
        · cases h
theorem ry_codes {L : List Jvm.Cond} (h : ∀ c ∈ L, c.before start1.args0 start1.about = true) : ∀ c ∈ L.filter su_isCode, c.before start1.args0 ry_s = true := by
  intro c hc
  obtain ⟨h1, h2⟩ := List.mem_filter.mp hc
  cases c <;> first | (simp only [su_isCode] at h2; cases h2; done) | exact rx_code_word (s := start1.about) (k := ry_other) rfl (h _ h1)
end
section
set_option maxRecDepth 16384 in
theorem ry_runs : ry_fall start1.p0.tables start1.e0 200 ry_s = true := by decide +kernel
end
section
set_option maxRecDepth 16384 in
theorem ry_o_1_0 : ((tables_1_1).take 30).all (fun c => su_isCode c || c.before start1.args0 ry_s) = true := by decide +kernel
set_option maxRecDepth 16384 in
theorem ry_o_1_1 : (((tables_1_1).drop 30).take 30).all (fun c => su_isCode c || c.before start1.args0 ry_s) = true := by decide +kernel
set_option maxRecDepth 16384 in
theorem ry_o_1_2 : ((((tables_1_1).drop 30).drop 30).take 30).all (fun c => su_isCode c || c.before start1.args0 ry_s) = true := by decide +kernel
set_option maxRecDepth 16384 in
theorem ry_o_1_3 : (((((tables_1_1).drop 30).drop 30).drop 30).take 30).all (fun c => su_isCode c || c.before start1.args0 ry_s) = true := by decide +kernel
set_option maxRecDepth 16384 in
theorem ry_o_1_4 : ((((((tables_1_1).drop 30).drop 30).drop 30).drop 30).take 30).all (fun c => su_isCode c || c.before start1.args0 ry_s) = true := by decide +kernel
set_option maxRecDepth 16384 in
theorem ry_o_1_5 : (((((((tables_1_1).drop 30).drop 30).drop 30).drop 30).drop 30).take 30).all (fun c => su_isCode c || c.before start1.args0 ry_s) = true := by decide +kernel
set_option maxRecDepth 16384 in
theorem ry_o_1_6 : ((((((((tables_1_1).drop 30).drop 30).drop 30).drop 30).drop 30).drop 30).take 30).all (fun c => su_isCode c || c.before start1.args0 ry_s) = true := by decide +kernel
set_option maxRecDepth 16384 in
theorem ry_o_1_7 : ((((((((tables_1_1).drop 30).drop 30).drop 30).drop 30).drop 30).drop 30).drop 30).all (fun c => su_isCode c || c.before start1.args0 ry_s) = true := by decide +kernel
theorem ry_others_1 : (tables_1_1).all (fun c => su_isCode c || c.before start1.args0 ry_s) = true := (start1.su_all_split _ 30 (tables_1_1) ry_o_1_0 (start1.su_all_split _ 30 ((tables_1_1).drop 30) ry_o_1_1 (start1.su_all_split _ 30 (((tables_1_1).drop 30).drop 30) ry_o_1_2 (start1.su_all_split _ 30 ((((tables_1_1).drop 30).drop 30).drop 30) ry_o_1_3 (start1.su_all_split _ 30 (((((tables_1_1).drop 30).drop 30).drop 30).drop 30) ry_o_1_4 (start1.su_all_split _ 30 ((((((tables_1_1).drop 30).drop 30).drop 30).drop 30).drop 30) ry_o_1_5 (start1.su_all_split _ 30 (((((((tables_1_1).drop 30).drop 30).drop 30).drop 30).drop 30).drop 30) ry_o_1_6 ry_o_1_7)))))))
theorem ry_words_1 : ∀ c ∈ tables_1_1, c.before start1.args0 ry_s = true := su_words ry_others_1 (ry_codes start1.words_1)
end
section
set_option maxRecDepth 16384 in
theorem ry_o_2_0 : ((tables_1_2).take 30).all (fun c => su_isCode c || c.before start1.args0 ry_s) = true := by decide +kernel
set_option maxRecDepth 16384 in
theorem ry_o_2_1 : (((tables_1_2).drop 30).take 30).all (fun c => su_isCode c || c.before start1.args0 ry_s) = true := by decide +kernel
set_option maxRecDepth 16384 in
theorem ry_o_2_2 : ((((tables_1_2).drop 30).drop 30).take 30).all (fun c => su_isCode c || c.before start1.args0 ry_s) = true := by decide +kernel
set_option maxRecDepth 16384 in
theorem ry_o_2_3 : (((((tables_1_2).drop 30).drop 30).drop 30).take 30).all (fun c => su_isCode c || c.before start1.args0 ry_s) = true := by decide +kernel
set_option maxRecDepth 16384 in
theorem ry_o_2_4 : ((((((tables_1_2).drop 30).drop 30).drop 30).drop 30).take 30).all (fun c => su_isCode c || c.before start1.args0 ry_s) = true := by decide +kernel
set_option maxRecDepth 16384 in
theorem ry_o_2_5 : (((((((tables_1_2).drop 30).drop 30).drop 30).drop 30).drop 30).take 30).all (fun c => su_isCode c || c.before start1.args0 ry_s) = true := by decide +kernel
set_option maxRecDepth 16384 in
theorem ry_o_2_6 : ((((((((tables_1_2).drop 30).drop 30).drop 30).drop 30).drop 30).drop 30).take 30).all (fun c => su_isCode c || c.before start1.args0 ry_s) = true := by decide +kernel
set_option maxRecDepth 16384 in
theorem ry_o_2_7 : ((((((((tables_1_2).drop 30).drop 30).drop 30).drop 30).drop 30).drop 30).drop 30).all (fun c => su_isCode c || c.before start1.args0 ry_s) = true := by decide +kernel
theorem ry_others_2 : (tables_1_2).all (fun c => su_isCode c || c.before start1.args0 ry_s) = true := (start1.su_all_split _ 30 (tables_1_2) ry_o_2_0 (start1.su_all_split _ 30 ((tables_1_2).drop 30) ry_o_2_1 (start1.su_all_split _ 30 (((tables_1_2).drop 30).drop 30) ry_o_2_2 (start1.su_all_split _ 30 ((((tables_1_2).drop 30).drop 30).drop 30) ry_o_2_3 (start1.su_all_split _ 30 (((((tables_1_2).drop 30).drop 30).drop 30).drop 30) ry_o_2_4 (start1.su_all_split _ 30 ((((((tables_1_2).drop 30).drop 30).drop 30).drop 30).drop 30) ry_o_2_5 (start1.su_all_split _ 30 (((((((tables_1_2).drop 30).drop 30).drop 30).drop 30).drop 30).drop 30) ry_o_2_6 ry_o_2_7)))))))
theorem ry_words_2 : ∀ c ∈ tables_1_2, c.before start1.args0 ry_s = true := su_words ry_others_2 (ry_codes start1.words_2)
end
section
set_option maxRecDepth 16384 in
theorem ry_o_3_0 : ((tables_1_3).take 30).all (fun c => su_isCode c || c.before start1.args0 ry_s) = true := by decide +kernel
set_option maxRecDepth 16384 in
theorem ry_o_3_1 : (((tables_1_3).drop 30).take 30).all (fun c => su_isCode c || c.before start1.args0 ry_s) = true := by decide +kernel
set_option maxRecDepth 16384 in
theorem ry_o_3_2 : ((((tables_1_3).drop 30).drop 30).take 30).all (fun c => su_isCode c || c.before start1.args0 ry_s) = true := by decide +kernel
set_option maxRecDepth 16384 in
theorem ry_o_3_3 : (((((tables_1_3).drop 30).drop 30).drop 30).take 30).all (fun c => su_isCode c || c.before start1.args0 ry_s) = true := by decide +kernel
set_option maxRecDepth 16384 in
theorem ry_o_3_4 : ((((((tables_1_3).drop 30).drop 30).drop 30).drop 30).take 30).all (fun c => su_isCode c || c.before start1.args0 ry_s) = true := by decide +kernel
set_option maxRecDepth 16384 in
theorem ry_o_3_5 : (((((((tables_1_3).drop 30).drop 30).drop 30).drop 30).drop 30).take 30).all (fun c => su_isCode c || c.before start1.args0 ry_s) = true := by decide +kernel
set_option maxRecDepth 16384 in
theorem ry_o_3_6 : ((((((((tables_1_3).drop 30).drop 30).drop 30).drop 30).drop 30).drop 30).take 30).all (fun c => su_isCode c || c.before start1.args0 ry_s) = true := by decide +kernel
set_option maxRecDepth 16384 in
theorem ry_o_3_7 : ((((((((tables_1_3).drop 30).drop 30).drop 30).drop 30).drop 30).drop 30).drop 30).all (fun c => su_isCode c || c.before start1.args0 ry_s) = true := by decide +kernel
theorem ry_others_3 : (tables_1_3).all (fun c => su_isCode c || c.before start1.args0 ry_s) = true := (start1.su_all_split _ 30 (tables_1_3) ry_o_3_0 (start1.su_all_split _ 30 ((tables_1_3).drop 30) ry_o_3_1 (start1.su_all_split _ 30 (((tables_1_3).drop 30).drop 30) ry_o_3_2 (start1.su_all_split _ 30 ((((tables_1_3).drop 30).drop 30).drop 30) ry_o_3_3 (start1.su_all_split _ 30 (((((tables_1_3).drop 30).drop 30).drop 30).drop 30) ry_o_3_4 (start1.su_all_split _ 30 ((((((tables_1_3).drop 30).drop 30).drop 30).drop 30).drop 30) ry_o_3_5 (start1.su_all_split _ 30 (((((((tables_1_3).drop 30).drop 30).drop 30).drop 30).drop 30).drop 30) ry_o_3_6 ry_o_3_7)))))))
theorem ry_words_3 : ∀ c ∈ tables_1_3, c.before start1.args0 ry_s = true := su_words ry_others_3 (ry_codes start1.words_3)
end
section
set_option maxRecDepth 16384 in
theorem ry_o_4_0 : ((tables_1_4).take 30).all (fun c => su_isCode c || c.before start1.args0 ry_s) = true := by decide +kernel
set_option maxRecDepth 16384 in
theorem ry_o_4_1 : (((tables_1_4).drop 30).take 30).all (fun c => su_isCode c || c.before start1.args0 ry_s) = true := by decide +kernel
set_option maxRecDepth 16384 in
theorem ry_o_4_2 : ((((tables_1_4).drop 30).drop 30).take 30).all (fun c => su_isCode c || c.before start1.args0 ry_s) = true := by decide +kernel
set_option maxRecDepth 16384 in
theorem ry_o_4_3 : (((((tables_1_4).drop 30).drop 30).drop 30).take 30).all (fun c => su_isCode c || c.before start1.args0 ry_s) = true := by decide +kernel
set_option maxRecDepth 16384 in
theorem ry_o_4_4 : ((((((tables_1_4).drop 30).drop 30).drop 30).drop 30).take 30).all (fun c => su_isCode c || c.before start1.args0 ry_s) = true := by decide +kernel
set_option maxRecDepth 16384 in
theorem ry_o_4_5 : (((((((tables_1_4).drop 30).drop 30).drop 30).drop 30).drop 30).take 30).all (fun c => su_isCode c || c.before start1.args0 ry_s) = true := by decide +kernel
set_option maxRecDepth 16384 in
theorem ry_o_4_6 : ((((((((tables_1_4).drop 30).drop 30).drop 30).drop 30).drop 30).drop 30).take 30).all (fun c => su_isCode c || c.before start1.args0 ry_s) = true := by decide +kernel
set_option maxRecDepth 16384 in
theorem ry_o_4_7 : ((((((((tables_1_4).drop 30).drop 30).drop 30).drop 30).drop 30).drop 30).drop 30).all (fun c => su_isCode c || c.before start1.args0 ry_s) = true := by decide +kernel
theorem ry_others_4 : (tables_1_4).all (fun c => su_isCode c || c.before start1.args0 ry_s) = true := (start1.su_all_split _ 30 (tables_1_4) ry_o_4_0 (start1.su_all_split _ 30 ((tables_1_4).drop 30) ry_o_4_1 (start1.su_all_split _ 30 (((tables_1_4).drop 30).drop 30) ry_o_4_2 (start1.su_all_split _ 30 ((((tables_1_4).drop 30).drop 30).drop 30) ry_o_4_3 (start1.su_all_split _ 30 (((((tables_1_4).drop 30).drop 30).drop 30).drop 30) ry_o_4_4 (start1.su_all_split _ 30 ((((((tables_1_4).drop 30).drop 30).drop 30).drop 30).drop 30) ry_o_4_5 (start1.su_all_split _ 30 (((((((tables_1_4).drop 30).drop 30).drop 30).drop 30).drop 30).drop 30) ry_o_4_6 ry_o_4_7)))))))
theorem ry_words_4 : ∀ c ∈ tables_1_4, c.before start1.args0 ry_s = true := su_words ry_others_4 (ry_codes start1.words_4)
end
section
set_option maxRecDepth 16384 in
theorem ry_o_5_0 : ((tables_1_5).take 30).all (fun c => su_isCode c || c.before start1.args0 ry_s) = true := by decide +kernel
set_option maxRecDepth 16384 in
theorem ry_o_5_1 : (((tables_1_5).drop 30).take 30).all (fun c => su_isCode c || c.before start1.args0 ry_s) = true := by decide +kernel
set_option maxRecDepth 16384 in
theorem ry_o_5_2 : ((((tables_1_5).drop 30).drop 30).take 30).all (fun c => su_isCode c || c.before start1.args0 ry_s) = true := by decide +kernel
set_option maxRecDepth 16384 in
theorem ry_o_5_3 : (((((tables_1_5).drop 30).drop 30).drop 30).take 30).all (fun c => su_isCode c || c.before start1.args0 ry_s) = true := by decide +kernel
set_option maxRecDepth 16384 in
theorem ry_o_5_4 : ((((((tables_1_5).drop 30).drop 30).drop 30).drop 30).take 30).all (fun c => su_isCode c || c.before start1.args0 ry_s) = true := by decide +kernel
set_option maxRecDepth 16384 in
theorem ry_o_5_5 : ((((((tables_1_5).drop 30).drop 30).drop 30).drop 30).drop 30).all (fun c => su_isCode c || c.before start1.args0 ry_s) = true := by decide +kernel
theorem ry_others_5 : (tables_1_5).all (fun c => su_isCode c || c.before start1.args0 ry_s) = true := (start1.su_all_split _ 30 (tables_1_5) ry_o_5_0 (start1.su_all_split _ 30 ((tables_1_5).drop 30) ry_o_5_1 (start1.su_all_split _ 30 (((tables_1_5).drop 30).drop 30) ry_o_5_2 (start1.su_all_split _ 30 ((((tables_1_5).drop 30).drop 30).drop 30) ry_o_5_3 (start1.su_all_split _ 30 (((((tables_1_5).drop 30).drop 30).drop 30).drop 30) ry_o_5_4 ry_o_5_5)))))
theorem ry_words_5 : ∀ c ∈ tables_1_5, c.before start1.args0 ry_s = true := su_words ry_others_5 (ry_codes start1.words_5)
end
section
theorem ry_words : ∀ c ∈ (Cond.code x code maxLocals ret :: tables_1), c.before start1.args0 ry_s = true := by
  intro c hc
  rcases List.mem_cons.mp hc with h | h
  · rw [h]; exact rx_code_word (s := start1.about) (k := ry_other) rfl start1.word_code
  · have h1 : c ∈ tables_1_1 ++ (tables_1_2 ++ (tables_1_3 ++ (tables_1_4 ++ tables_1_5))) := h
    simp only [List.mem_append] at h1
    rcases h1 with h | h | h | h | h
    · exact ry_words_1 c h
    · exact ry_words_2 c h
    · exact ry_words_3 c h
    · exact ry_words_4 c h
    · exact ry_words_5 c h
/-! Every premise of the Statement holds at ry_s. -/
set_option maxRecDepth 16384 in
theorem ry_start : AtStart classFile x code maxLocals ret World_1 tables_1 room_1 Calls_1 rest_1 Pre_1 launch0 start1.p0 start1.e0 ry_s ⟨0, 0⟩ start1.args0 Lib.HandBits.below0 := by
  have hrest : rest_1_c.before start1.args0 ry_s = true := by decide +kernel
  have hpre : (Cond.and given_1 narrow_1).before start1.args0 ry_s = true := by decide +kernel
  have hroom : ry_s.hasRoom (launch0.env 0 0 0).platform room_1 = true :=
    launch0.hasRoom_least _ room_1 (by decide +kernel) (by decide +kernel) (by decide +kernel) (by decide +kernel) (by decide +kernel) (by decide +kernel) (by decide +kernel)
  have happ : (headSpec (Cond.code x code maxLocals ret :: tables_1) room_1).applies x start1.e0.platform ry_s = true :=
    (Spec.applies_iff (m := ⟨0, 0⟩) (args := start1.args0) (below := Lib.HandBits.below0) rfl).mpr
      ⟨rfl, rfl, rfl, by decide +kernel, by decide +kernel, by decide +kernel, hroom, atoms_intro ry_words⟩
  exact ⟨lists_1, trivial, launch0.admits_env _ _ _, launch0.least_env, fairChoices_fair.cas, fairChoices_fair.clock, rfl, by decide +kernel, by decide +kernel, happ, trivial, hrest, hpre⟩
/-! The Statement's own printed forms: from ry_s the law ends, and not as claimed. -/
theorem ry_refuted_1 : RefutedClaimed_1_1 := by
  obtain ⟨n, a, hw, hs, he⟩ := ry_falls start1.p0.tables start1.e0 200 ry_s ry_runs
  refine ⟨launch0, start1.p0, start1.e0, ry_s, ⟨0, 0⟩, start1.args0, Lib.HandBits.below0, rfl, ry_start, n, .threw a, hw, hs, he, ?_⟩
  rintro ⟨-, ⟨v, hv⟩, -⟩
  cases hv
theorem ry_refuted_2 : RefutedClaimed_1_2 := by
  obtain ⟨n, a, hw, hs, he⟩ := ry_falls start1.p0.tables start1.e0 200 ry_s ry_runs
  refine ⟨launch0, start1.p0, start1.e0, ry_s, ⟨0, 0⟩, start1.args0, Lib.HandBits.below0, rfl, ry_start, n, .threw a, hw, hs, he, ?_⟩
  rintro ⟨-, ⟨v, hv⟩, -⟩
  cases hv
end
