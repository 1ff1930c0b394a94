/-! THE SPECIFICATION that both sides are tied to: plain functions over numbers and lists -/
theorem iinc1 (i : Nat) : nI i + Int32.ofInt 1 = nI (i + 1) := nI_1 i
theorem iincn (i n : Nat) : nI i + Int32.ofInt n = nI (i + n) := by
  rw [show Int32.ofInt (n : Int) = nI n from rfl]
  exact nI_add i n
/-- a LOT: its MONTH, what the BOOK shows, what is TRUE, whether it was MEASURED -/
abbrev Lt : Type := Nat × Int32 × Nat × Bool
def bI (b : Bool) : Int32 := if b then 1 else 0
def tsum : List Lt → Nat
  | [] => 0
  | l :: r => l.2.2.1 + tsum r
def bsum (all : Bool) : List Lt → Int64
  | [] => 0
  | l :: r => (if all || !l.2.2.2 then l.2.1.toInt64 else 0) + bsum all r
theorem tsum_app (a b : List Lt) : tsum (a ++ b) = tsum a + tsum b := by
  induction a with
  | nil => simp [tsum]
  | cons x r ih => simp only [List.cons_append, tsum, ih]; omega
theorem bsum_app (all : Bool) (a b : List Lt) : bsum all (a ++ b) = bsum all a + bsum all b := by
  induction a with
  | nil => simp [bsum]
  | cons x r ih => simp only [List.cons_append, bsum, ih]; rw [Int64.add_assoc]
theorem take_one {α : Type} {L : List α} {i : Nat} {l : α} (h : L[i]? = some l) : L.take (i + 1) = L.take i ++ [l] := by
  rw [List.take_succ, h]; rfl
theorem tsum_take {L : List Lt} {i : Nat} {l : Lt} (h : L[i]? = some l) : tsum (L.take (i + 1)) = tsum (L.take i) + l.2.2.1 := by
  rw [take_one h, tsum_app]; simp [tsum]
theorem bsum_take {all : Bool} {L : List Lt} {i : Nat} {l : Lt} (h : L[i]? = some l) : bsum all (L.take (i + 1)) = bsum all (L.take i) + (if all || !l.2.2.2 then l.2.1.toInt64 else 0) := by
  rw [take_one h, bsum_app]; simp [bsum]
theorem tsum_mem {L : List Lt} {l : Lt} (h : l ∈ L) : l.2.2.1 ≤ tsum L := by
  induction L with
  | nil => cases h
  | cons x r ih =>
    rcases List.mem_cons.mp h with rfl | h
    · simp only [tsum]; omega
    · have := ih h; simp only [tsum]; omega
theorem get_lt {α : Type} {L : List α} {i : Nat} (h : i < L.length) : ∃ l, L[i]? = some l := ⟨L[i], List.getElem?_eq_getElem h⟩
theorem lt_get {α : Type} {L : List α} {i : Nat} {l : α} (h : L[i]? = some l) : i < L.length := (List.getElem?_eq_some_iff.mp h).1
/-- taking n: the oldest LOTS first; what is gone shows its BOOK as FOUND -/
def tk : Nat → List Lt → Int64 → List Lt × Int64
  | _, [], f => ([], f)
  | n, l :: r, f => if n = 0 then (l :: r, f) else if n < l.2.2.1 then ((l.1, l.2.1 - nI n, l.2.2.1 - n, l.2.2.2) :: r, f) else tk (n - l.2.2.1) r (f + (l.2.1 - nI l.2.2.1).toInt64)
/-- n measures come in a MONTH -/
def pt (n mo : Nat) (L : List Lt) : List Lt :=
  if n = 0 then L else match L.getLast? with
  | none => [(mo, nI n, n, false)]
  | some l => if l.1 ≠ mo ∧ L.length < 40 then L ++ [(mo, nI n, n, false)] else L.dropLast ++ [(l.1, l.2.1 + nI n, l.2.2.1 + n, false)]
/-- what spoils: LOTS of a MONTH that is a or more ago lose p hundredths -/
def spl (p : Nat) (t : Nat) : Nat := (t * p + 99) / 100
def sp (now a p : Nat) : List Lt → Int64 → Nat → List Lt × Int64 × Nat
  | [], f, s => ([], f, s)
  | l :: r, f, s => if now < l.1 + a then (l :: (sp now a p r f s).1, (sp now a p r f s).2) else
      if l.2.2.1 - spl p l.2.2.1 = 0 then sp now a p r (f + (l.2.1 - nI (spl p l.2.2.1)).toInt64) (s + spl p l.2.2.1)
      else ((l.1, l.2.1 - nI (spl p l.2.2.1), l.2.2.1 - spl p l.2.2.1, l.2.2.2) :: (sp now a p r f (s + spl p l.2.2.1)).1, (sp now a p r f (s + spl p l.2.2.1)).2)
/-- the clerk -/
def pl : Nat → List Lt → List Lt
  | _, [] => []
  | n, l :: r => if n = 0 then l :: r else if n < l.2.2.1 then (l.1, l.2.1, l.2.2.1 - n, false) :: r else (l.1, l.2.1, 0, l.2.2.2 && l.2.2.1 == 0) :: pl (n - l.2.2.1) r
/-- well-formed LOTS -/
def okL (L : List Lt) : Prop := L.length ≤ 40 ∧ tsum L ≤ 50000 ∧ ∀ l ∈ L, l.1 ≤ 4000
