theorem mrep_slot {sc : Int32 × Int32 × Int32} {I I' : Nat → Nat → Int32} {J J' : Nat → Nat → Int64} {B : Nat} {tp : List Nat} {nx : Nat → Nat} {tn rn : Nat} {E R Hv : Nat → Nat} {mo co : Nat} {C : List Cr} {T : Nat → ST} {rd : Nat → Rd} {t : Nat} {s' : ST} (hm : mrep sc I J tp nx tn rn E R Hv mo co C T rd) (hv : sinv B tp nx tn rn E R Hv mo co C T rd) (ht : t < tn) (hI : fr (pS t) I I') (hJ : fr (pX t) J J') (hs : slotR I' J' t s') : mrep sc I' J' tp nx tn rn E R Hv mo co C (upf T t s') rd := by
  obtain ⟨m0, m1, m2, m3, m4, m5, m6, m7, m8, m9, m10, m11, m12, m13⟩ := hm
  obtain ⟨-, -, ⟨v4, -⟩, -, -, ⟨v12, -⟩, ⟨v14, -⟩, -⟩ := hv
  have e0 : 8 * 0 + t = t := by omega
  have k : ∀ a b, a < 22 → I' a b = I a b := fun a b h => hI a b (by simp only [pS]; omega)
  refine ⟨m0, fun i b h => (k 0 i (by omega)).trans (m1 i b h), fun j h => (k 3 j (by omega)).trans (m2 j h), m3, m4, fun j h => (k 7 j (by omega)).trans (m5 j h), fun j h => (k 8 j (by omega)).trans (m6 j h), fun j h => ?_, (k 15 0 (by omega)).trans m8, (hJ 16 0 (by simp [pX])).trans m9, crR_fr hI m10 v12 (by simp [pS]) (fun a b h1 h2 _ _ z => by simp only [pS] at z; omega), MRg_up m11 (fun t ht => (v14 t ht).1) hI hJ (by rw [e0]; exact hs) (fun a b z => Or.inl (by rw [e0]; exact z)) (fun a b z => Or.inl (by rw [e0]; exact z)), fun r h => ?_, fun j h1 h2 => slotR_fr hI hJ (m13 j h1 h2) (by simp [st0]) (by simp only [pS]; omega) (fun a b h3 h4 h5 h6 z => by simp only [pS] at z; omega) (fun a h3 h4 z => by simp only [pX] at z; omega)⟩
  · rw [k 9 j (by omega)]; exact m7 j h
  · obtain ⟨a, b, c, d, e⟩ := m12 r h
    exact ⟨(k 10 r (by omega)).trans a, (k 11 r (by omega)).trans b, (k 12 r (by omega)).trans c, (k 13 r (by omega)).trans d, (k 14 r (by omega)).trans e⟩
theorem iltI (n : Int32) {k : Nat} (h : k < 2 ^ 31) : n < nI k ↔ n.toInt < (k : Int) := by rw [Int32.lt_iff_toInt_lt, nI_toInt h]
theorem ileI (n : Int32) {k : Nat} (h : k < 2 ^ 31) : n ≤ nI k ↔ n.toInt ≤ (k : Int) := by rw [Int32.le_iff_toInt_le, nI_toInt h]
theorem lleI (n : Int32) {k : Nat} (h : k < 2 ^ 63) : n.toInt64 ≤ lN k ↔ n.toInt ≤ (k : Int) := by rw [Int64.le_iff_toInt_le, ti64, lNI h]
theorem lltI (n : Int32) {k : Nat} (h : k < 2 ^ 63) : lN k < n.toInt64 ↔ (k : Int) < n.toInt := by rw [Int64.lt_iff_toInt_lt, ti64, lNI h]
def lndO (n l : Nat) : Nat := (n * l + 99) / 100
def lnd (n l : Nat) (s : ST) : ST := ((s.1.1 + n, s.1.2 + lndO n l), (s.2.1.1, s.2.1.2.1, s.2.1.2.2.1, s.2.1.2.2.2.1, s.2.1.2.2.2.2.1, (tk n s.2.2 s.2.1.2.2.2.2.2).2), (tk n s.2.2 s.2.1.2.2.2.2.2).1)
def stl (n : Nat) (s : ST) : ST := (s.1, (s.2.1.1, s.2.1.2.1, s.2.1.2.2.1, s.2.1.2.2.2.1, s.2.1.2.2.2.2.1 + lN n, s.2.1.2.2.2.2.2), pl n s.2.2)
def lt0 : Lt := (0, 0, 0, false)
def aud (i : Nat) (s : ST) : ST := if (s.2.2.getD i lt0).2.2.1 = 0 then (s.1, (s.2.1.1, s.2.1.2.1, s.2.1.2.2.1, s.2.1.2.2.2.1, s.2.1.2.2.2.2.1, s.2.1.2.2.2.2.2 + (s.2.2.getD i lt0).2.1.toInt64), s.2.2.eraseIdx i) else (s.1, (s.2.1.1, s.2.1.2.1, s.2.1.2.2.1, s.2.1.2.2.2.1, s.2.1.2.2.2.2.1, s.2.1.2.2.2.2.2 + ((s.2.2.getD i lt0).2.1 - nI (s.2.2.getD i lt0).2.2.1).toInt64), s.2.2.set i ((s.2.2.getD i lt0).1, nI (s.2.2.getD i lt0).2.2.1, (s.2.2.getD i lt0).2.2.1, true))
def snd (n : Nat) (s : ST) : ST := (s.1, (s.2.1.1, s.2.1.2.1, s.2.1.2.2.1, s.2.1.2.2.2.1, s.2.1.2.2.2.2.1, (tk n s.2.2 s.2.1.2.2.2.2.2).2), (tk n s.2.2 s.2.1.2.2.2.2.2).1)
theorem pl_0 (L : List Lt) : pl 0 L = L := by cases L <;> simp [pl]
/-- TRUE and the mark of one LOT change -/
theorem rowR_set2 {I : Nat → Nat → Int32} {x i : Nat} {L : List Lt} {l : Lt} {t : Nat} {v : Int32} {b : Bool} (h : rowR I x L) (hl : L[i]? = some l) (hv : 40 * x + i < 320 → v = bI b) : rowR (up2 (up2 I 32 (40 * x + i) (nI t)) 33 (40 * x + i) v) x (L.set i (l.1, l.2.1, t, b)) := by
  refine ⟨by rw [List.length_set]; exact h.1, fun k l' hk => ?_⟩
  by_cases q : k = i
  · subst q
    rw [List.getElem?_set_self (lt_get hl)] at hk
    cases hk
    have e := h.2 k l hl
    refine ⟨e.1, e.2.1, ?_, fun z => ?_⟩
    · rw [up2_k _ _ (by decide), up2_s]
    · rw [up2_s]; exact hv z
  · rw [List.getElem?_set_ne (fun z => q z.symm)] at hk
    have e := h.2 k l' hk
    refine ⟨e.1, e.2.1, ?_, fun z => ?_⟩
    · rw [up2_n _ _ (by omega), up2_n _ _ (by omega)]; exact e.2.2.1
    · rw [up2_n _ _ (by omega), up2_n _ _ (by omega)]; exact e.2.2.2 z
theorem set2_fr {I : Nat → Nat → Int32} {x i : Nat} {a b : Int32} {k k' : Nat} (hi : i < 40) (h : 30 ≤ k ∧ k ≤ 33) (h' : 30 ≤ k' ∧ k' ≤ 33) : fr (pS x) I (up2 (up2 I k (40 * x + i) a) k' (40 * x + i) b) := (fr.up (Or.inr ⟨by omega, by omega, by omega, by omega⟩)).tr (fr.up (Or.inr ⟨by omega, by omega, by omega, by omega⟩))
/-- BOOK and the mark of one LOT change -/
theorem rowR_set3 {I : Nat → Nat → Int32} {x i : Nat} {L : List Lt} {l : Lt} {a v : Int32} {b : Bool} (h : rowR I x L) (hl : L[i]? = some l) (hv : 40 * x + i < 320 → v = bI b) : rowR (up2 (up2 I 31 (40 * x + i) a) 33 (40 * x + i) v) x (L.set i (l.1, a, l.2.2.1, b)) := by
  refine ⟨by rw [List.length_set]; exact h.1, fun k l' hk => ?_⟩
  by_cases q : k = i
  · subst q
    rw [List.getElem?_set_self (lt_get hl)] at hk
    cases hk
    have e := h.2 k l hl
    refine ⟨e.1, ?_, e.2.2.1, fun z => ?_⟩
    · rw [up2_k _ _ (by decide), up2_s]
    · rw [up2_s]; exact hv z
  · rw [List.getElem?_set_ne (fun z => q z.symm)] at hk
    have e := h.2 k l' hk
    refine ⟨e.1, ?_, e.2.2.1, fun z => ?_⟩
    · rw [up2_n _ _ (by omega), up2_n _ _ (by omega)]; exact e.2.1
    · rw [up2_n _ _ (by omega), up2_n _ _ (by omega)]; exact e.2.2.2 z
theorem pl_m {m : Nat} {l : Lt} {r : List Lt} (h0 : ¬ m = 0) (h : m ≤ l.2.2.1) : pl m (l :: r) = (l.1, l.2.1, l.2.2.1 - m, l.2.2.2 && decide (m = 0)) :: pl (m - m) r := by
  rw [pl, if_neg h0, Nat.sub_self, pl_0]
  by_cases q : m < l.2.2.1
  · rw [if_pos q]; simp [h0]
  · have e : l.2.2.1 = m := by omega
    rw [if_neg q, e, Nat.sub_self, pl_0]; simp [h0]
theorem pl_t {m : Nat} {l : Lt} {r : List Lt} (h0 : ¬ m = 0) (h : l.2.2.1 < m) : pl m (l :: r) = (l.1, l.2.1, l.2.2.1 - l.2.2.1, l.2.2.2 && decide (l.2.2.1 = 0)) :: pl (m - l.2.2.1) r := by
  rw [pl, if_neg h0, if_neg (by omega), Nat.sub_self]
  congr
