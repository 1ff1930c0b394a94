/-! numbers that come from outside -/
theorem ti64 (v : Int32) : v.toInt64.toInt = v.toInt := Int32.toInt_toInt64 v
theorem lNI {n : Nat} (h : n < 2 ^ 63) : (lN n).toInt = (n : Int) := pk_lT h
theorem ti_nI {t : Int32} (h : 0 ≤ t.toInt) : t = nI t.toInt.toNat := by
  have hr := t.toInt_lt
  have : t.toInt.toNat < 2 ^ 31 := by omega
  apply Int32.toInt_inj.mp
  rw [nI_toInt this]
  omega
theorem nIti {n : Nat} (h : n < 2 ^ 31) : (nI n).toInt = (n : Int) := nI_toInt h
theorem ite0 {P : Prop} [Decidable P] : (if P then (1 : Int32) else 0) = 0 ↔ ¬ P := by by_cases h : P <;> simp [h]
theorem ite1 {P : Prop} [Decidable P] : ¬ (if P then (1 : Int32) else 0) = 0 ↔ P := by by_cases h : P <;> simp [h]
theorem liesI (v : Int32) {a b : Nat} (ha : a < 2 ^ 31) (hb : b < 2 ^ 31) : (if lN a ≤ v.toInt64 ∧ v.toInt64 ≤ lN b then (1 : Int32) else 0) = if (a : Int) ≤ v.toInt ∧ v.toInt ≤ (b : Int) then 1 else 0 := by
  have e : (lN a ≤ v.toInt64 ∧ v.toInt64 ≤ lN b) ↔ ((a : Int) ≤ v.toInt ∧ v.toInt ≤ (b : Int)) := by
    rw [Int64.le_iff_toInt_le, Int64.le_iff_toInt_le, ti64, lNI (by omega), lNI (by omega)]
  simp only [e]
theorem liesT (v : Int32) {n : Nat} (h : n < 2 ^ 30) : (if lN 0 ≤ v.toInt64 ∧ v.toInt64 ≤ (nI n - nI 1).toInt64 then (1 : Int32) else 0) = if 0 ≤ v.toInt ∧ v.toInt < (n : Int) then 1 else 0 := by
  have e : (lN 0 ≤ v.toInt64 ∧ v.toInt64 ≤ (nI n - nI 1).toInt64) ↔ (0 ≤ v.toInt ∧ v.toInt < (n : Int)) := by
    rw [Int64.le_iff_toInt_le, Int64.le_iff_toInt_le, ti64, ti64, lNI (by omega), pk_sub_toInt h (by omega)]
    omega
  simp only [e]
abbrev isT (n : Nat) (t : Int32) : Prop := 0 ≤ t.toInt ∧ t.toInt < (n : Int)
abbrev isN (a b : Nat) (t : Int32) : Prop := (a : Int) ≤ t.toInt ∧ t.toInt ≤ (b : Int)
abbrev kN (t : Int32) : Nat := t.toInt.toNat
theorem isT.k {n : Nat} {t : Int32} (h : isT n t) : t = nI (kN t) ∧ kN t < n := ⟨ti_nI h.1, by have := h.1; have := h.2; simp only [kN]; omega⟩
theorem isN.k {a b : Nat} {t : Int32} (h : isN a b t) : t = nI (kN t) ∧ a ≤ kN t ∧ kN t ≤ b := ⟨ti_nI (by have := h.1; omega), by have := h.1; have := h.2; simp only [kN]; omega⟩
def st0 : ST := ((0, 0), (0, 0, 0, 0, 0, 0), [])
abbrev Rd : Type := Nat × Nat × Nat × Nat × Nat
def rd0 : Rd := (0, 0, 0, 0, 0)
def rdE (I : Nat → Nat → Int32) (r : Nat) (d : Rd) : Prop := I 10 r = nI d.1 ∧ I 11 r = nI d.2.1 ∧ I 12 r = nI d.2.2.1 ∧ I 13 r = nI d.2.2.2.1 ∧ I 14 r = nI d.2.2.2.2
/-- what the reference's world shows -/
def mrep (sc : Int32 × Int32 × Int32) (I : Nat → Nat → Int32) (J : Nat → Nat → Int64) (tp : List Nat) (nx : Nat → Nat) (tn rn : Nat) (E R Hv : Nat → Nat) (mo co : Nat) (C : List Cr) (T : Nat → ST) (rd : Nat → Rd) : Prop :=
  sc.1 = nI tp.length ∧ (∀ i b, tp[i]? = some b → I 0 i = (nI b).toInt8.toInt32) ∧ (∀ j, j < 8 → I 3 j = nI (nx j)) ∧ sc.2.1 = nI tn ∧ sc.2.2 = nI rn ∧ (∀ t, t < 8 → I 7 t = nI (E t)) ∧ (∀ t, t < 8 → I 8 t = nI (R t)) ∧ (∀ t, t < tn → (I 9 t = nI (Hv t) ∨ (Hv t = 0 ∧ I 9 t = -1))) ∧ I 15 0 = nI mo ∧ J 16 0 = lN co ∧ crR I 0 C ∧ MRg I J 0 T ∧ (∀ r, r < 12 → rdE I r (rd r)) ∧ (∀ t, tn ≤ t → t < 8 → slotR I J (8 + t) st0)
/-- what holds of the whole at all times; B: a bound of what a MARKET holds -/
def sinv (B : Nat) (tp : List Nat) (nx : Nat → Nat) (tn rn : Nat) (E R Hv : Nat → Nat) (mo co : Nat) (C : List Cr) (T : Nat → ST) (rd : Nat → Rd) : Prop :=
  (tp.length ≤ 60 ∧ ∀ b ∈ tp, b < 256) ∧ ((∀ j, j < 8 → nx j ≤ 9999) ∧ nx 6 ≤ 100) ∧ (tn ≤ 8 ∧ rn ≤ 12) ∧ ((∀ t, t < tn → 1 ≤ E t) ∧ (∀ t, E t ≤ 1000) ∧ (∀ t, R t ≤ 50000) ∧ (∀ t, Hv t ≤ 100000)) ∧ (mo ≤ 2000 ∧ co ≤ 1000000000 + 100000000 * mo) ∧ (C.length ≤ 60 ∧ ∀ c ∈ C, c.1 < tn ∧ c.2.1 ≤ 2100 ∧ c.2.2 ≤ 10000) ∧ ((∀ t, t < 8 → inv mo (R t) B (T t)) ∧ ∀ t, tn ≤ t → T t = st0) ∧ ((∀ r, r < rn → (rd r).1 < tn ∧ (rd r).2.1 < tn ∧ 1 ≤ (rd r).2.2.1 ∧ (rd r).2.2.1 ≤ 6 ∧ (rd r).2.2.2.1 ≤ 10000 ∧ (rd r).2.2.2.2 ≤ (rd r).2.2.2.1) ∧ ∀ r, rn ≤ r → rd r = rd0)
