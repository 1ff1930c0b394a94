theorem narB {P : Prop} [Decidable P] : narrow .boolean (.int (if P then 1 else 0)) = .int (if P then 1 else 0) := by by_cases h : P <;> simp [h] <;> rfl
def hsum : Nat → (Nat → ST) → Int64
  | 0, _ => 0
  | n + 1, T => hsum n T + (T n).2.1.1
def csum : List Cr → Nat
  | [] => 0
  | c :: r => c.2.2 + csum r
theorem csum_app (a b : List Cr) : csum (a ++ b) = csum a + csum b := by
  induction a with
  | nil => simp [csum]
  | cons x r ih => simp only [List.cons_append, csum, ih]; omega
theorem csum_take {L : List Cr} {i : Nat} {l : Cr} (h : L[i]? = some l) : csum (L.take (i + 1)) = csum (L.take i) + l.2.2 := by
  rw [take_one h, csum_app]; simp [csum]
/-- answers that change nothing -/
def lookV (e r : Nat) (s : ST) (w : Int32) : Int64 :=
  if w = 0 then lN e else if w = 1 then lN s.1.1 else if w = 2 then lN r else if w = 3 then lN (prc e s) else if w = 4 then lN s.2.2.length else if w = 5 then lN (tsum s.2.2) else if w = 6 then bsum true s.2.2 else if w = 7 then s.2.1.1 else if w = 8 then s.2.1.2.1 else if w = 9 then lN s.1.2 else if w = 10 then s.2.1.2.2.1 else if w = 11 then s.2.1.2.2.2.1 else if w = 12 then s.2.1.2.2.2.2.1 else -1
def lookR (tn : Nat) (E R : Nat → Nat) (T : Nat → ST) (t w : Int32) : Int64 := if isT tn t then lookV (E (kN t)) (R (kN t)) (T (kN t)) w else -1
def missV (s : ST) (w : Int32) : Int64 := if w = 0 then s.2.1.2.2.2.2.2 else if w = 1 then s.2.1.2.2.2.2.2 + bsum false s.2.2 else -1
def missR (tn : Nat) (T : Nat → ST) (t w : Int32) : Int64 := if isT tn t then missV (T (kN t)) w else -1
def lotV (l : Lt) (w : Int32) : Int32 := if w = 0 then nI l.1 else if w = 1 then l.2.1 else if w = 2 then bI l.2.2.2 else -1
def lotR (tn : Nat) (T : Nat → ST) (t i w : Int32) : Int32 := if isT tn t ∧ isT (T (kN t)).2.2.length i then lotV ((T (kN t)).2.2.getD (kN i) (0, 0, 0, false)) w else -1
def countR (tp : List Nat) (tn rn mo co : Nat) (C : List Cr) (T : Nat → ST) (rd : Nat → Rd) (w : Int32) : Int64 :=
  if 10 ≤ w.toInt ∧ w.toInt < (10 + rn : Int) then lN (rd (kN w - 10)).2.2.2.2 else
  if w = 0 then lN mo else if w = 1 then lN tn else if w = 2 then lN rn else if w = 3 then lN co else if w = 4 then lN (csum C) else if w = 5 then lN tp.length else if w = 6 then hsum tn T else -1
theorem liesC (w : Int32) {n : Nat} (h : n ≤ 12) : (if lN 0 ≤ (w - nI 10).toInt64 ∧ (w - nI 10).toInt64 ≤ (nI n - nI 1).toInt64 then (1 : Int32) else 0) = if 10 ≤ w.toInt ∧ w.toInt < (10 + n : Int) then 1 else 0 := by
  rw [liesT (w - nI 10) (by omega)]
  have hb := w.toInt_lt
  have hb2 := w.le_toInt
  have e : (0 ≤ (w - nI 10).toInt ∧ (w - nI 10).toInt < (n : Int)) ↔ (10 ≤ w.toInt ∧ w.toInt < (10 + n : Int)) := by
    rw [Int32.toInt_sub, nI_toInt (by omega)]
    rw [Int.bmod_def]
    simp only [show (((2 : Nat) ^ 32 : Nat) : Int) = 4294967296 from rfl]
    split <;> omega
  simp only [e]
