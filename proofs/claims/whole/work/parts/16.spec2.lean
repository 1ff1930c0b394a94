/-! a STORE with its MARKET: MARKET, OWES; HUNGER, spoilt, bought, sold, stolen, FOUND ever; LOTS -/
abbrev ST : Type := (Nat × Nat) × (Int64 × Int64 × Int64 × Int64 × Int64 × Int64) × List Lt
def rcv (R n mo : Nat) (s : ST) : ST := ((s.1.1 + (n - min n (R - tsum s.2.2)), s.1.2), s.2.1, pt (min n (R - tsum s.2.2)) mo s.2.2)
def payN (R : Nat) (s : ST) : Nat := min s.1.2 (min s.1.1 (R - tsum s.2.2))
def pay (R mo : Nat) (s : ST) : ST := ((s.1.1 - payN R s, s.1.2 - payN R s), s.2.1, pt (payN R s) mo s.2.2)
def rea (h : Nat) (s : ST) : ST := ((s.1.1 + h, s.1.2), s.2.1, s.2.2)
def hvs (R mo h : Nat) (s : ST) : ST := if mo % 12 = 9 then pay R mo (rea h s) else rea h s
def prc (E : Nat) (s : ST) : Nat := 1000 * E / (s.1.1 + E)
def buy0 (R : Nat) (ed : Nat → Nat) (s : ST) : Nat := min (ed 1) (min (R - tsum s.2.2) s.1.1)
def buyN (E R : Nat) (ed : Nat → Nat) (co : Nat) (s : ST) : Nat := if prc E s = 0 then buy0 R ed s else min (buy0 R ed s) (co / prc E s)
def selN (ed : Nat → Nat) (s : ST) : Nat := min (ed 3) (tsum s.2.2)
def buyS (n mo : Nat) (s : ST) : ST := ((s.1.1 - n, s.1.2), (s.2.1.1, s.2.1.2.1, s.2.1.2.2.1 + lN n, s.2.1.2.2.2.1, s.2.1.2.2.2.2.1, s.2.1.2.2.2.2.2), pt n mo s.2.2)
def selS (n : Nat) (s : ST) : ST := ((s.1.1 + n, s.1.2), (s.2.1.1, s.2.1.2.1, s.2.1.2.2.1, s.2.1.2.2.2.1 + lN n, s.2.1.2.2.2.2.1, (tk n s.2.2 s.2.1.2.2.2.2.2).2), (tk n s.2.2 s.2.1.2.2.2.2.2).1)
def trd (E R : Nat) (ed : Nat → Nat) (mo co : Nat) (s : ST) : Nat × ST :=
  if prc E s ≤ ed 0 then (co - buyN E R ed co s * prc E s, buyS (buyN E R ed co s) mo s)
  else if ed 2 ≤ prc E s then (co + selN ed s * prc E s, selS (selN ed s) s)
  else (co, s)
def eat (E : Nat) (s : ST) : ST := ((s.1.1 - min E s.1.1, s.1.2), (s.2.1.1 + lN (E - min E s.1.1), s.2.1.2), s.2.2)
def spo (mo a p : Nat) (s : ST) : ST := (s.1, (s.2.1.1, s.2.1.2.1 + lN (sp mo a p s.2.2 s.2.1.2.2.2.2.2 0).2.2, s.2.1.2.2.1, s.2.1.2.2.2.1, s.2.1.2.2.2.2.1, (sp mo a p s.2.2 s.2.1.2.2.2.2.2 0).2.1), (sp mo a p s.2.2 s.2.1.2.2.2.2.2 0).1)
def trnN (o : Nat) (s : ST) : Nat := min ((tsum s.2.2 + o - 1) / o) s.1.1
def trn (o mo : Nat) (s : ST) : ST := (s.1, (s.2.1.1, s.2.1.2.1, s.2.1.2.2.1, s.2.1.2.2.2.1, s.2.1.2.2.2.2.1, (tk (trnN o s) s.2.2 s.2.1.2.2.2.2.2).2), pt (trnN o s) mo (tk (trnN o s) s.2.2 s.2.1.2.2.2.2.2).1)
theorem leastN {a b : Nat} (ha : a < 2 ^ 63) (hb : b < 2 ^ 63) : (if lN a < lN b then lN a else lN b) = lN (min a b) := by
  by_cases h : a < b
  · rw [if_pos ((pk_lLT ha hb).mpr h), Nat.min_eq_left (by omega)]
  · rw [if_neg (fun z => h ((pk_lLT ha hb).mp z)), Nat.min_eq_right (by omega)]
theorem spl_le {p t : Nat} (h : p ≤ 100) : spl p t ≤ t := by
  have h1 : t * p ≤ t * 100 := Nat.mul_le_mul_left t h
  unfold spl
  omega
/-- sums and lengths behind each change -/
theorem tk_sum : ∀ (L : List Lt) (n : Nat) (f : Int64), tsum (tk n L f).1 = tsum L - n
  | [], n, f => by simp [tk, tsum]
  | l :: r, n, f => by
    rw [tk]
    by_cases h : n = 0
    · rw [if_pos h, h]; simp
    · rw [if_neg h]
      by_cases h2 : n < l.2.2.1
      · rw [if_pos h2]; simp only [tsum]; omega
      · rw [if_neg h2, tk_sum r]; simp only [tsum]; omega
theorem tk_len : ∀ (L : List Lt) (n : Nat) (f : Int64), (tk n L f).1.length ≤ L.length
  | [], n, f => by simp [tk]
  | l :: r, n, f => by
    rw [tk]
    by_cases h : n = 0
    · rw [if_pos h]; exact Nat.le_refl _
    · rw [if_neg h]
      by_cases h2 : n < l.2.2.1
      · rw [if_pos h2]; simp
      · rw [if_neg h2]; have := tk_len r (n - l.2.2.1) (f + (l.2.1 - nI l.2.2.1).toInt64); simp only [List.length_cons]; omega
theorem tk_mo {P : Nat → Prop} : ∀ (L : List Lt) (n : Nat) (f : Int64), (∀ l ∈ L, P l.1) → ∀ l ∈ (tk n L f).1, P l.1
  | [], n, f, h => by simp [tk]
  | l :: r, n, f, h => by
    rw [tk]
    by_cases h1 : n = 0
    · rw [if_pos h1]; exact h
    · rw [if_neg h1]
      by_cases h2 : n < l.2.2.1
      · rw [if_pos h2]
        intro q hq
        rcases List.mem_cons.mp hq with rfl | hq
        · exact h l List.mem_cons_self
        · exact h q (List.mem_cons_of_mem _ hq)
      · rw [if_neg h2]; exact tk_mo r _ _ (fun q hq => h q (List.mem_cons_of_mem _ hq))
theorem pt_sum (n mo : Nat) (L : List Lt) : tsum (pt n mo L) = tsum L + n := by
  by_cases h : n = 0
  · subst h; rw [pt_0]; omega
  · cases hl : L[L.length - 1]? with
    | none =>
      have : L = [] := by
        cases L with
        | nil => rfl
        | cons a b => simp at hl
      subst this
      rw [pt_nil h, tsum_app]; simp [tsum]
    | some l =>
      by_cases hc : l.1 ≠ mo ∧ L.length < 40
      · rw [pt_new h hl hc.1 hc.2, tsum_app]; simp [tsum]
      · rw [pt_mod h hl (by by_cases q : l.1 = mo; exact Or.inl q; exact Or.inr (by omega)), tsum_app]
        have e : L = L.dropLast ++ [l] := by
          have hne : L ≠ [] := by intro z; subst z; simp at hl
          have h3 := List.dropLast_concat_getLast hne
          have h4 : L.getLast hne = l := by
            rw [List.getLast_eq_getElem]
            exact (List.getElem?_eq_some_iff.mp hl).2
          rw [h4] at h3
          exact h3.symm
        have e2 : tsum L = tsum L.dropLast + l.2.2.1 := by
          conv => lhs; rw [e]
          rw [tsum_app]; simp [tsum]
        rw [e2]; simp [tsum]; omega
theorem pt_len (n mo : Nat) (L : List Lt) (hL : L.length ≤ 40) : (pt n mo L).length ≤ 40 := by
  by_cases h : n = 0
  · subst h; rw [pt_0]; exact hL
  · cases hl : L[L.length - 1]? with
    | none =>
      have : L = [] := by
        cases L with
        | nil => rfl
        | cons a b => simp at hl
      subst this
      rw [pt_nil h]; simp
    | some l =>
      have hp := lt_get hl
      by_cases hc : l.1 ≠ mo ∧ L.length < 40
      · rw [pt_new h hl hc.1 hc.2]; simp; omega
      · rw [pt_mod h hl (by by_cases q : l.1 = mo; exact Or.inl q; exact Or.inr (by omega))]; simp; omega
theorem pt_mo {P : Nat → Prop} (n mo : Nat) (L : List Lt) (hm : P mo) (h : ∀ l ∈ L, P l.1) : ∀ l ∈ pt n mo L, P l.1 := by
  by_cases hn : n = 0
  · subst hn; rw [pt_0]; exact h
  · cases hl : L[L.length - 1]? with
    | none =>
      have : L = [] := by
        cases L with
        | nil => rfl
        | cons a b => simp at hl
      subst this
      rw [pt_nil hn]; intro l hl2; simp at hl2; subst hl2; exact hm
    | some l =>
      by_cases hc : l.1 ≠ mo ∧ L.length < 40
      · rw [pt_new hn hl hc.1 hc.2]; intro q hq
        rcases List.mem_append.mp hq with hq | hq
        · exact h q hq
        · simp at hq; subst hq; exact hm
      · rw [pt_mod hn hl (by by_cases q : l.1 = mo; exact Or.inl q; exact Or.inr (by omega))]; intro q hq
        rcases List.mem_append.mp hq with hq | hq
        · exact h q (List.dropLast_subset L hq)
        · simp at hq; subst hq; exact h l (List.mem_of_getElem? hl)
theorem sp_all {P : Nat → Prop} (now a p : Nat) (hp : p ≤ 100) : ∀ (L : List Lt) (f : Int64) (s : Nat), (∀ l ∈ L, P l.1) → tsum (sp now a p L f s).1 ≤ tsum L ∧ (sp now a p L f s).1.length ≤ L.length ∧ ∀ l ∈ (sp now a p L f s).1, P l.1
  | [], f, s, h => by simp [sp, tsum]
  | l :: r, f, s, h => by
    have hr : ∀ q ∈ r, P q.1 := fun q hq => h q (List.mem_cons_of_mem _ hq)
    have hl := h l List.mem_cons_self
    have hs := spl_le (t := l.2.2.1) hp
    rw [sp]
    by_cases h1 : now < l.1 + a
    · rw [if_pos h1]
      obtain ⟨i1, i2, i3⟩ := sp_all now a p hp r f s hr
      refine ⟨by simp only [tsum]; omega, by simp only [List.length_cons]; omega, fun q hq => ?_⟩
      rcases List.mem_cons.mp hq with rfl | hq
      · exact hl
      · exact i3 q hq
    · rw [if_neg h1]
      by_cases h2 : l.2.2.1 - spl p l.2.2.1 = 0
      · rw [if_pos h2]
        obtain ⟨i1, i2, i3⟩ := sp_all now a p hp r (f + (l.2.1 - nI (spl p l.2.2.1)).toInt64) (s + spl p l.2.2.1) hr
        exact ⟨by simp only [tsum]; omega, by simp only [List.length_cons]; omega, i3⟩
      · rw [if_neg h2]
        obtain ⟨i1, i2, i3⟩ := sp_all now a p hp r f (s + spl p l.2.2.1) hr
        refine ⟨by simp only [tsum]; omega, by simp only [List.length_cons]; omega, fun q hq => ?_⟩
        rcases List.mem_cons.mp hq with rfl | hq
        · exact hl
        · exact i3 q hq
