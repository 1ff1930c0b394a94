/-! The printed form of the refutation: a start that the Statement allows, from which the law ENDS, by an exception.
As rx_s, but that the clone() of the entry "[other" throws the array itself (aload_0, athrow). -/
def ry_code : ByteArray := ⟨#[0x2a, 0xbf]⟩
def ry_other : Class := { start1.cArr "[other" 31 .int with
  methods := #[Lib.HandJ.method "clone" "()Ljava/lang/Object;" [] (some (.object "java/lang/Object")) 0x1 1 ry_code] }
def ry_s : State := { start1.about with
  vm := { start1.about.vm with classes := start1.about.vm.classes.push ry_other },
  heap := start1.about.heap.modify 6 fun c => { c with cls := 40 } }
/-! The one frame of below0. -/
def ry_is0 : Frame → Bool
  | .native g => decide (g.method = ⟨0, 0⟩) && g.args.isEmpty && decide (g.stage = 0) && g.saved.isEmpty && !g.awaiting && g.answer.isNone && g.locked.isNone && decide (g.words = 0)
  | _ => false
theorem ry_is0_eq {f : Frame} (h : ry_is0 f = true) : [f] = Lib.HandBits.below0 := by
  cases f with
  | native g =>
    obtain ⟨m, ar, st, sv, aw, an, lo, wo⟩ := g
    simp only [ry_is0, Bool.and_eq_true, decide_eq_true_eq, Array.isEmpty_iff, Bool.not_eq_true', Option.isNone_iff_eq_none] at h
    obtain ⟨⟨⟨⟨⟨⟨⟨h1, h2⟩, h3⟩, h4⟩, h5⟩, h6⟩, h7⟩, h8⟩ := h
    subst h1 h2 h3 h4 h5 h6 h7 h8
    rfl
  | _ => cases h
def ry_low : List Frame → Bool
  | [] => false
  | f :: r => match r with
    | [] => ry_is0 f
    | _ :: _ => ry_low r
theorem ry_low_eq : ∀ {fs : List Frame}, ry_low fs = true → ∃ above, fs = above ++ Lib.HandBits.below0
  | [], h => by cases h
  | [f], h => ⟨[], by rw [List.nil_append]; exact ry_is0_eq h⟩
  | f :: g :: r, h => by
    obtain ⟨ab, hab⟩ := ry_low_eq (fs := g :: r) h
    exact ⟨f :: ab, by rw [hab, List.cons_append]⟩
/-! Under way above below0. -/
def ry_in : List Frame → Bool
  | [] => false
  | a :: r => match r with
    | [] => false
    | [b] => (match a with | .throwing _ => false | _ => true) && ry_is0 b
    | _ :: _ :: _ => ry_low r
theorem ry_within {s : State} (h : ry_in s.frames = true) : Within s Lib.HandBits.below0 := by
  match hf : s.frames with
  | [] => rw [hf] at h; cases h
  | [a] => rw [hf] at h; cases h
  | [a, b] =>
    rw [hf] at h
    simp only [ry_in, Bool.and_eq_true] at h
    obtain ⟨h1, h2⟩ := h
    refine ⟨[a], ?_, by simp, ?_⟩
    · rw [hf, ← ry_is0_eq h2]; rfl
    · intro x hx
      injection hx with hx _
      subst hx
      cases h1
  | a :: b :: c :: r =>
    rw [hf] at h
    have h : ry_low (b :: c :: r) = true := h
    obtain ⟨ab, hab⟩ := ry_low_eq h
    have hl : ab ≠ [] := by
      intro h0
      have := congrArg List.length hab
      rw [h0] at this
      simp [Lib.HandBits.below0] at this
    refine ⟨a :: ab, ?_, by simp, ?_⟩
    · rw [hf, hab, List.cons_append]
    · intro x hx
      injection hx with _ hx
      exact hl hx
/-! Ended by an exception. -/
def ry_done (s : State) : Option Addr := match s.frames with
  | [.throwing a, b] => if ry_is0 b && decide (s.status = .running) then some a else none
  | _ => none
def ry_fall (tb : Tables) (e : Env) : Nat → State → Bool
  | 0, _ => false
  | n + 1, s => match ry_done s with
    | some _ => true
    | none => match ry_in s.frames with
      | false => false
      | true => match s.status, s.curStatus?, s.alone with
        | .running, some .runnable, true => ry_fall tb e n (stepThread tb e s).1
        | _, _, _ => false
theorem ry_done_eq {s : State} {a : Addr} (h : ry_done s = some a) : s.status = .running ∧ s.frames = .throwing a :: Lib.HandBits.below0 := by
  unfold ry_done at h
  split at h
  · rename_i x b hf
    split at h
    · rename_i hb
      rw [Bool.and_eq_true] at hb
      cases h
      exact ⟨of_decide_eq_true hb.2, by rw [hf, ← ry_is0_eq hb.1]⟩
    · cases h
  · cases h
theorem ry_falls (tb : Tables) (e : Env) : ∀ (N : Nat) (s : State), ry_fall tb e N s = true →
    ∃ (n : Nat) (a : Addr), (∀ k, k < n → Within (stepsAlone tb e k s) Lib.HandBits.below0) ∧ (stepsAlone tb e n s).status = Status.running ∧ Ended (stepsAlone tb e n s) Lib.HandBits.below0 (.threw a) := by
  intro N
  induction N with
  | zero => intro s h; cases h
  | succ N ih =>
    intro s h
    unfold ry_fall at h
    split at h
    · rename_i a ha
      obtain ⟨h1, h2⟩ := ry_done_eq ha
      exact ⟨0, a, fun k hk => absurd hk (Nat.not_lt_zero k), h1, h2⟩
    · split at h
      · cases h
      · rename_i hi
        split at h
        · rename_i h1 h2 h3
          obtain ⟨n, a, hw, hs, he⟩ := ih _ h
          have hstep : ∀ k, stepsAlone tb e (k + 1) s = stepsAlone tb e k (stepThread tb e s).1 := by
            intro k
            rw [stepsAlone, h1, h2, h3]
          refine ⟨n + 1, a, ?_, ?_, ?_⟩
          · intro k hk
            cases k with
            | zero => exact ry_within hi
            | succ k => rw [hstep]; exact hw k (Nat.lt_of_succ_lt_succ hk)
          · rw [hstep]; exact hs
          · rw [hstep]; exact he
        · cases h
theorem ry_codes {L : List Jvm.Cond} (h : ∀ c ∈ L, c.before start1.args0 start1.about = true) : ∀ c ∈ L.filter su_isCode, c.before start1.args0 ry_s = true := by
  intro c hc
  obtain ⟨h1, h2⟩ := List.mem_filter.mp hc
  cases c <;> first | (simp only [su_isCode] at h2; cases h2; done) | exact rx_code_word (s := start1.about) (k := ry_other) rfl (h _ h1)
