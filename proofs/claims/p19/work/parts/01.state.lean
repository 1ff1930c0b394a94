/-! A start that the Statement allows, at which the law never ends.
It is the witness's own start (named, not copied) with one entry more in the table of loaded kinds: number 40, named "[other", an array of int by its kind, which has a clone() of its own that runs for ever.
The static FIRST is an array of that kind: length 8, the same eight ints. Nothing else differs. -/
def rx_loop : ByteArray := ⟨#[0xa7, 0x00, 0x00]⟩
def rx_other : Class := { start1.cArr "[other" 31 .int with
  methods := #[Lib.HandJ.method "clone" "()Ljava/lang/Object;" [] (some (.object "java/lang/Object")) 0x1 1 rx_loop] }
def rx_s : State := { start1.about with
  vm := { start1.about.vm with classes := start1.about.vm.classes.push rx_other },
  heap := start1.about.heap.modify 6 fun c => { c with cls := 40 } }
/-! Not ended: the top is no exception under way, and more than one frame stands. -/
def rx_in : List Frame → Bool
  | .throwing _ :: _ => false
  | _ :: _ :: _ => true
  | _ => false
/-! At an instruction that jumps to itself. -/
def rx_at (s : State) : Bool := match s.frames with
  | .java f :: _ :: _ => ((s.vm.classes[f.method.cls]?).all fun k => plainName k.name) &&
    (match s.code? f.method with
     | some c => (match decode c.code f.pc with
       | .ok (.goto off, _) => decide (off = 0)
       | _ => false)
     | none => false)
  | _ => false
def rx_run (tb : Tables) (e : Env) : Nat → State → Bool
  | 0, _ => false
  | n + 1, s => match rx_at s with
    | true => true
    | false => match rx_in s.frames with
      | true => rx_run tb e n (stepThread tb e s).1
      | false => false
theorem rx_at_in {s : State} (h : rx_at s = true) : rx_in s.frames = true := by
  unfold rx_at at h
  split at h
  · rename_i f g r hf
    rw [hf]; rfl
  · cases h
theorem rx_stay (p : Program) (e : Env) (s : State) (h : rx_at s = true) : (stepThread p.tables e s).1 = s := by
  unfold rx_at at h
  split at h
  · rename_i f g r hf
    rw [Bool.and_eq_true] at h
    obtain ⟨h2, h3⟩ := h
    split at h3
    · rename_i c hc
      split at h3
      · rename_i off len hd
        have ho : off = 0 := of_decide_eq_true h3
        subst ho
        have hpl : s.plainMethod f.method := State.plainMethod.of_name (by intro k hk; rw [hk] at h2; simpa using h2)
        have hex : p.tables.exec = Jvm.exec := by cases p <;> rfl
        rw [stepThread_java hf hpl hc hd, hex]
        obtain ⟨as, hr⟩ : ∃ as, (Jvm.exec (.goto 0)).run e s = .ctl (.branch 0) s as := ⟨_, rfl⟩
        rw [hr]
        have ht := State.topJava?_of_frames hf
        have hn : ¬ ((f.pc : Int) + 0 < 0) := by omega
        simp only [afterInstr, ht, if_neg hn]
        rw [State.modifyTopJava_eq_setTop _ ht]
        have hg : ({ f with pc := ((f.pc : Int) + 0).toNat } : JFrame) = f := by
          have : ((f.pc : Int) + 0).toNat = f.pc := by omega
          rw [this]
        rw [hg]
        exact State.setTop_self ht
      · cases h3
    · cases h3
  · cases h
theorem rx_stays {tb : Tables} {e : Env} {s : State} (h : (stepThread tb e s).1 = s) : ∀ n, stepsAlone tb e n s = s
  | 0 => rfl
  | n + 1 => by
    unfold stepsAlone
    split
    · rw [h]; exact rx_stays h n
    · rfl
theorem rx_forever (p : Program) (e : Env) : ∀ (n : Nat) (s : State), rx_run p.tables e n s = true → ∀ k, rx_in (stepsAlone p.tables e k s).frames = true := by
  intro n
  induction n with
  | zero => intro s h; cases h
  | succ n ih =>
    intro s h k
    unfold rx_run at h
    split at h
    · rename_i ha
      rw [rx_stays (rx_stay p e s ha) k]
      exact rx_at_in ha
    · split at h
      · rename_i hi
        cases k with
        | zero => exact hi
        | succ k =>
          unfold stepsAlone
          split
          · exact ih _ h k
          · exact hi
      · cases h
theorem rx_not_ended {s : State} {o : Outcome} (h : rx_in s.frames = true) : ¬ Ended s Lib.HandBits.below0 o := by
  intro hE
  cases o with
  | threw a =>
    have hE : s.frames = .throwing a :: Lib.HandBits.below0 := hE
    rw [hE] at h; cases h
  | returned v =>
    have hE : s.frames = .native { method := ⟨0, 0⟩, args := #[], awaiting := false, answer := some (.returned v) } :: [] := hE
    rw [hE] at h; cases h
/-! A word on bytecode that holds of one table of loaded kinds holds of that table with one entry more. -/
theorem rx_code_word {a : Array Value} {s t : State} {k : Class} (hc : t.vm.classes = s.vm.classes.push k) {y : MethodName} {b : ByteArray} {n : Nat} {r : Option FieldType}
    (h : (Cond.code y b n r).before a s = true) : (Cond.code y b n r).before a t = true := by
  have hget : ∀ (i : Nat) (q : Class), s.vm.classes[i]? = some q → t.vm.classes[i]? = some q := by
    intro i q hq
    have hlt : i < s.vm.classes.size := (Array.getElem?_eq_some_iff.mp hq).1
    rw [hc, Array.getElem?_push_lt hlt]
    exact (Array.getElem?_eq_some_iff.mp hq).2 ▸ rfl
  have hfind : ∀ (nm : String) (i : Nat), s.vm.findClass nm = some i → t.vm.findClass nm = some i := by
    intro nm i hi
    unfold Vm.findClass at hi ⊢
    rw [hc, Array.findIdx?_push, hi]; rfl
  have hmeth : ∀ (m : MethodId) (me : Method), s.vm.method? m = some me → t.vm.method? m = some me := by
    intro m me hm
    unfold Vm.method? at hm ⊢
    cases hq : s.vm.classes[m.cls]? with
    | none => rw [hq] at hm; cases hm
    | some q => rw [hq] at hm; rw [hget _ _ hq]; exact hm
  have hname : ∀ (m : MethodId), s.methodNamed? y = some m → t.methodNamed? y = some m := by
    intro m hm
    unfold State.methodNamed? at hm ⊢
    cases hi : s.vm.findClass y.cls with
    | none => rw [hi] at hm; cases hm
    | some i =>
      rw [hi] at hm; rw [hfind _ _ hi]
      simp only [Option.bind_eq_bind, Option.bind_some] at hm ⊢
      cases hq : s.vm.classes[i]? with
      | none => rw [hq] at hm; cases hm
      | some q => rw [hq] at hm; rw [hget _ _ hq]; exact hm
  cases hm : s.methodNamed? y with
  | none => simp [Cond.before, Cond.holds, Cond.value, hm] at h
  | some m =>
    cases hq : s.vm.method? m with
    | none => simp [Cond.before, Cond.holds, Cond.value, hm, hq] at h
    | some me =>
      have e1 := hname m hm
      have e2 := hmeth m me hq
      simp only [Cond.before, Cond.holds, Cond.value, hm, hq, Option.bind_some] at h
      simp only [Cond.before, Cond.holds, Cond.value, e1, e2, Option.bind_some]
      exact h
theorem rx_codes {L : List Jvm.Cond} (h : ∀ c ∈ L, c.before start1.args0 start1.about = true) : ∀ c ∈ L.filter su_isCode, c.before start1.args0 rx_s = true := by
  intro c hc
  obtain ⟨h1, h2⟩ := List.mem_filter.mp hc
  cases c <;> first | (simp only [su_isCode] at h2; cases h2; done) | exact rx_code_word (s := start1.about) (k := rx_other) rfl (h _ h1)
