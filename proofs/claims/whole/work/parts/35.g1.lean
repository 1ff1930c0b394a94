theorem cp_inv {mo B tn : Nat} {R : Nat → Nat} {J : Nat → Nat → Int64} {T : Nat → ST} (h : ∀ t, t < 8 → inv mo (R t) B (T t)) : ∀ t, t < 8 → inv mo (R t) B (cpT tn J T t) := by
  intro t ht
  by_cases q : t < tn
  · simp only [cpT, if_pos q]; exact h t ht
  · simp only [cpT, if_neg q, st0]
    exact ⟨by simp, by simp [tsum], Nat.zero_le _, Nat.zero_le _, by simp [mths], by simp [mths]⟩
theorem its_at {tn : Nat} {E R ed : Nat → Nat} {x : MS} (h : ∀ k c, c ∈ (mits tn E R ed k x).2.2.1 → c.1 < tn) : ∀ n t, tn ≤ t → (mits tn E R ed n x).2.2.2.2 t = x.2.2.2.2 t
  | 0, t, _ => rfl
  | n + 1, t, ht => (mstep_at (fun c hc => h n c hc) t ht).trans (its_at h n t ht)
/-- what is done in the group 1 leaves what the reference shows as it was -/
theorem mrep_g1x {sc : Int32 × Int32 × Int32} {I I' : Nat → Nat → Int32} {J J' : Nat → Nat → Int64} {B : Nat} {tp : List Nat} {nx : Nat → Nat} {tn rn : Nat} {E R Hv : Nat → Nat} {mo co : Nat} {C : List Cr} {T : Nat → ST} {rd : Nat → Rd} {x : MS} {y : MS} (hm : mrep sc I J tp nx tn rn E R Hv mo co C T rd) (hv : sinv B tp nx tn rn E R Hv mo co C T rd) (h : mst I J 1 I' J' x) (hy : ∀ t, tn ≤ t → x.2.2.2.2 t = y.2.2.2.2 t) (hy0 : ∀ t, tn ≤ t → y.2.2.2.2 t = st0 := by intro t ht; have : ¬ t < _ := Nat.not_lt.mpr ht; simp [cpT, this]) : mrep sc I' J' tp nx tn rn E R Hv mo co C T rd := by
  obtain ⟨m0, m1, m2, m3, m4, m5, m6, m7, m8, m9, m10, m11, m12, m13⟩ := hm
  obtain ⟨-, -, -, -, -, ⟨v12, -⟩, ⟨v14, -⟩, -⟩ := hv
  obtain ⟨a1, -, -, -, f1, f2⟩ := h
  have k : ∀ a b, a ≠ 2 → a < 15 → I' a b = I a b := fun a b h1 h2 => f1 a b (by simp only [pG, pC]; omega)
  refine ⟨m0, fun i b h => (k 0 i (by omega) (by omega)).trans (m1 i b h), fun j h => (k 3 j (by omega) (by omega)).trans (m2 j h), m3, m4, fun j h => (k 7 j (by omega) (by omega)).trans (m5 j h), fun j h => (k 8 j (by omega) (by omega)).trans (m6 j h), fun t ht => by rw [k 9 t (by omega) (by omega)]; exact m7 t ht, (f1 15 0 (by simp only [pG, pC]; omega)).trans m8, (f2 16 0 (by simp only [pGJ, pXg]; omega)).trans m9, crR_fr f1 m10 v12 (by simp only [pG, pC]; omega) (fun a b h1 h2 h3 h4 z => by simp only [pG, pC] at z; omega), MRg_keep m11 (fun t ht => (v14 t ht).1) f1 f2 (fun a b z => by simp only [pG, pC] at z; omega) (fun a b z => by simp only [pGJ, pXg] at z; omega), fun r hr => ?_, fun t h1 h2 => ?_⟩
  · obtain ⟨b1, b2, b3, b4, b5⟩ := m12 r hr
    exact ⟨(k 10 r (by omega) (by omega)).trans b1, (k 11 r (by omega) (by omega)).trans b2, (k 12 r (by omega) (by omega)).trans b3, (k 13 r (by omega) (by omega)).trans b4, (k 14 r (by omega) (by omega)).trans b5⟩
  · have := a1 t h2
    rw [hy t h1, hy0 t h1] at this
    exact this
theorem mrep_g1 {sc : Int32 × Int32 × Int32} {I I' : Nat → Nat → Int32} {J J' : Nat → Nat → Int64} {B : Nat} {tp : List Nat} {nx : Nat → Nat} {tn rn : Nat} {E R Hv : Nat → Nat} {mo co mo1 co1 : Nat} {C C1 : List Cr} {T T1 : Nat → ST} {rd : Nat → Rd} {H1 : Nat → Nat} {J1 : Nat → Nat → Int64} (hm : mrep sc I J tp nx tn rn E R Hv mo co C T rd) (hv : sinv B tp nx tn rn E R Hv mo co C T rd) (h : mst I J 1 I' J' (mo1, co1, C1, H1, cpT tn J1 T1)) : mrep sc I' J' tp nx tn rn E R Hv mo co C T rd := mrep_g1x (y := (mo1, co1, C1, H1, cpT tn J1 T1)) hm hv h (fun _ _ => rfl)
