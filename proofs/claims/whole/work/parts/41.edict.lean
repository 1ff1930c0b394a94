def edA (tp : List Nat) (n : Nat) : Nat × (Nat → Nat) := rds (byt tp n) n 61 0 fst8
theorem byt_lt {tp : List Nat} (hb : ∀ b ∈ tp, b < 256) (n k : Nat) : byt tp n k < 256 := by
  unfold byt
  split
  · rw [List.getD_eq_getElem?_getD]
    cases h : tp[k]? with
    | none => simp
    | some b => exact hb b (List.mem_of_getElem? h)
  · omega
theorem letK_n {tp : List Nat} {n k : Nat} (h : ¬ letK (nI (byt tp n k)) = 8) : k < n := by
  rcases Nat.lt_or_ge k n with z | z
  · exact z
  · exact absurd (by rw [byt, if_neg (by omega)]; decide) h
theorem letA_no (c : Int32) : letA c = -1 ↔ letK c = 8 := by
  have h := letK_le c
  unfold letA
  split
  · rename_i q
    exact ⟨fun z => absurd z (nI_ne_m1 (by omega)), fun z => by omega⟩
  · exact ⟨fun _ => by omega, fun _ => rfl⟩
theorem letA_yes {c : Int32} (h : ¬ letK c = 8) : letA c = nI (letK c) ∧ letK c < 8 := by
  have := letK_le c
  exact ⟨by rw [letA, if_pos (by omega)], by omega⟩
theorem digL {b : Nat} (h : b < 256) : (if lN 48 ≤ lN b ∧ lN b ≤ lN 57 then (1 : Int32) else 0) = if dig b then 1 else 0 := by
  have e : (lN 48 ≤ lN b ∧ lN b ≤ lN 57) ↔ dig b := by
    rw [Int64.le_iff_toInt_le, Int64.le_iff_toInt_le, lNI (by omega), lNI (by omega), lNI (by omega)]
    simp only [dig]; omega
  by_cases z : dig b
  · rw [if_pos z, if_pos (e.mpr z)]
  · rw [if_neg z, if_neg (fun y => z (e.mp y))]
theorem rd_up {I : Nat → Nat → Int32} {d : Nat → Nat} {w v : Nat} (h : ∀ j, j < 8 → I 4 j = nI (d j)) : ∀ j, j < 8 → up2 I 4 w (nI v) 4 j = nI (upf d w v j) := by
  intro j hj
  by_cases z : j = w
  · subst z; rw [up2_s]; simp [upf]
  · rw [up2_j _ _ z, h j hj]; simp [upf, z]
theorem mrep_ed {sc : Int32 × Int32 × Int32} {I I' : Nat → Nat → Int32} {J : Nat → Nat → Int64} {tp : List Nat} {nx nx' : Nat → Nat} {tn rn : Nat} {E R Hv : Nat → Nat} {mo co : Nat} {C : List Cr} {T : Nat → ST} {rd : Nat → Rd} (hm : mrep sc I J tp nx tn rn E R Hv mo co C T rd) (f : fr (fun k j => k = 3 ∨ k = 4) I I') (hl : ∀ t, t < 8 → (T t).2.2.length ≤ 40) (hC : C.length ≤ 60) (hnx : ∀ j, j < 8 → I' 3 j = nI (nx' j)) : mrep (nI 0, sc.2.1, sc.2.2) I' J [] nx' tn rn E R Hv mo co C T rd := by
  obtain ⟨m0, m1, m2, m3, m4, m5, m6, m7, m8, m9, m10, m11, m12, m13⟩ := hm
  have k : ∀ a b, a ≠ 3 → a ≠ 4 → I' a b = I a b := fun a b h h' => f a b (by omega)
  refine ⟨rfl, fun i b h => by simp at h, hnx, m3, m4, fun j h => (k 7 j (by omega) (by omega)).trans (m5 j h), fun j h => (k 8 j (by omega) (by omega)).trans (m6 j h), fun t ht => by rw [k 9 t (by omega) (by omega)]; exact m7 t ht, (k 15 0 (by omega) (by omega)).trans m8, m9, crR_fr f m10 hC (by omega) (by intros; omega), MRg_keep (P' := fun _ _ => False) m11 hl f fr.rf (fun a b z => by omega) (fun a b z => z.elim), fun r hr => ?_, fun t h1 h2 => ?_⟩
  · obtain ⟨b1, b2, b3, b4, b5⟩ := m12 r hr
    exact ⟨(k 10 r (by omega) (by omega)).trans b1, (k 11 r (by omega) (by omega)).trans b2, (k 12 r (by omega) (by omega)).trans b3, (k 13 r (by omega) (by omega)).trans b4, (k 14 r (by omega) (by omega)).trans b5⟩
  · exact slotR_fr (P' := fun _ _ => False) f fr.rf (m13 t h1 h2) (by simp [st0]) (by omega) (by intros; omega) (fun _ _ _ z => z)
