def slotR (I : Nat → Nat → Int32) (J : Nat → Nat → Int64) (x : Nat) (s : ST) : Prop := J 21 x = lN s.1.1 ∧ J 26 x = lN s.1.2 ∧ J 24 x = s.2.1.1 ∧ J 25 x = s.2.1.2.1 ∧ J 27 x = s.2.1.2.2.1 ∧ J 28 x = s.2.1.2.2.2.1 ∧ J 29 x = s.2.1.2.2.2.2.1 ∧ J 23 x = s.2.1.2.2.2.2.2 ∧ rowR I x s.2.2
def okS (R : Nat) (s : ST) : Prop := okL s.2.2 ∧ tsum s.2.2 ≤ R ∧ s.1.1 < 2 ^ 50 ∧ s.1.2 < 2 ^ 50
/-- the places of longs of the STORE x -/
def pX (x k j : Nat) : Prop := 21 ≤ k ∧ k ≤ 29 ∧ j = x
theorem slotR_fr {P P' : Nat → Nat → Prop} {I I' : Nat → Nat → Int32} {J J' : Nat → Nat → Int64} {x : Nat} {s : ST} (h : fr P I I') (h' : fr P' J J') (e : slotR I J x s) (hl : s.2.2.length ≤ 40) (n0 : ¬ P 22 x) (n : ∀ k j, 30 ≤ k → k ≤ 33 → 40 * x ≤ j → j < 40 * x + 40 → ¬ P k j) (n' : ∀ k, 21 ≤ k → k ≤ 29 → ¬ P' k x) : slotR I' J' x s := by
  obtain ⟨a, b, c, d, f, g, i, j, r⟩ := e
  exact ⟨(h' 21 x (n' 21 (by omega) (by omega))).trans a, (h' 26 x (n' 26 (by omega) (by omega))).trans b, (h' 24 x (n' 24 (by omega) (by omega))).trans c, (h' 25 x (n' 25 (by omega) (by omega))).trans d, (h' 27 x (n' 27 (by omega) (by omega))).trans f, (h' 28 x (n' 28 (by omega) (by omega))).trans g, (h' 29 x (n' 29 (by omega) (by omega))).trans i, (h' 23 x (n' 23 (by omega) (by omega))).trans j, rowR_fr h r n0 (fun k j h1 h2 h3 h4 => n k j h1 h2 h3 (by omega))⟩
theorem nI_ne_m1 {h : Nat} (hh : h < 2 ^ 31) : ¬ nI h = -1 := fun z => by
  have := congrArg Int32.toInt z
  rw [nI_toInt hh] at this
  have h2 : (-1 : Int32).toInt = -1 := by decide
  rw [h2] at this
  omega
theorem rea_0 (s : ST) : rea 0 s = s := rfl
theorem prc_le (e : Nat) (s : ST) : prc e s ≤ 1000 := by
  unfold prc
  refine Nat.div_le_of_le_mul ?_
  rw [Nat.mul_comm 1000 e]
  exact Nat.mul_le_mul_right 1000 (Nat.le_add_left e s.1.1)
theorem buy_cost (e r : Nat) (ed : Nat → Nat) (co : Nat) (s : ST) : buyN e r ed co s * prc e s ≤ co := by
  unfold buyN
  by_cases h : prc e s = 0
  · rw [h]; simp
  · rw [if_neg h]
    exact Nat.le_trans (Nat.mul_le_mul_right _ (Nat.min_le_right _ _)) (Nat.div_mul_le_self _ _)
theorem buy_le (e r : Nat) (ed : Nat → Nat) (co : Nat) (s : ST) : buyN e r ed co s ≤ s.1.1 ∧ buyN e r ed co s ≤ r - tsum s.2.2 ∧ buyN e r ed co s ≤ ed 1 := by
  unfold buyN buy0
  by_cases h : prc e s = 0
  · rw [if_pos h]; omega
  · rw [if_neg h]; omega
section MROWS2
variable {G : GG} {X : CX} {my : MethodName} {cc : ByteArray} {mL : Nat} {mr : Option FieldType} {R : Room} {A : Nat → Prop} {Q : State → Prop} {kc kn : Nat} {lv : List (Nat × Value)} {pc : Nat} {rest : List Value} {o : Nat} {ad : Nat → Nat} {sc : Int32 × Int32 × Int32} {I : Nat → Nat → Int32} {J : Nat → Nat → Int64}
theorem Mle {ke : Nat} (hke : ke = 2 ∨ ke = 3) {i : Int32} (j : Nat) (hi : i = nI j) (hj : j < 8) (hdg : decode cc pc = .ok (.iaload, 1)) (kk : V G X my cc mL mr R A Q kc kn (mw G o ad sc I J) lv (pc + 1) (.int (I ke j) :: rest)) : V G X my cc mL mr R A Q kc kn (mw G o ad sc I J) lv pc (.int i :: .ref (ad ke) :: rest) := by
  rcases hke with rfl | rfl
  · exact Ml2 j hi hj hdg kk
  · exact Ml3 j hi hj hdg kk
end MROWS2
/-- one LOT of a row changes -/
theorem rowR_set {I : Nat → Nat → Int32} {x i : Nat} {L : List Lt} {l : Lt} {b : Int32} {t : Nat} (h : rowR I x L) (hl : L[i]? = some l) : rowR (up2 (up2 I 32 (40 * x + i) (nI t)) 31 (40 * x + i) b) x (L.set i (l.1, b, t, l.2.2.2)) := by
  refine ⟨by rw [List.length_set]; exact h.1, fun k l' hk => ?_⟩
  by_cases q : k = i
  · subst q
    rw [List.getElem?_set_self (lt_get hl)] at hk
    cases hk
    have e := h.2 k l hl
    refine ⟨e.1, up2_s _ _ _ _, ?_, e.2.2.2⟩
    rw [up2_k _ _ (by decide), up2_s]
  · rw [List.getElem?_set_ne (fun z => q z.symm)] at hk
    have e := h.2 k l' hk
    refine ⟨e.1, ?_, ?_, e.2.2.2⟩
    · rw [up2_n _ _ (by omega)]; exact e.2.1
    · rw [up2_n _ _ (by omega), up2_n _ _ (by omega)]; exact e.2.2.1
theorem set_fr {I : Nat → Nat → Int32} {x i t : Nat} {b : Int32} (hi : i < 40) : fr (pS x) I (up2 (up2 I 32 (40 * x + i) (nI t)) 31 (40 * x + i) b) := (fr.up (Or.inr ⟨by omega, by omega, by omega, by omega⟩)).tr (fr.up (Or.inr ⟨by omega, by omega, by omega, by omega⟩))
theorem set_mid {D r : List Lt} {l l' : Lt} : (D ++ l :: r).set D.length l' = D ++ l' :: r := by simp
theorem mid_at {D r : List Lt} {l : Lt} : (D ++ l :: r)[D.length]? = some l := by simp
theorem erase_mid {D r : List Lt} {l : Lt} : (D ++ l :: r).eraseIdx D.length = D ++ r := by
  rw [List.eraseIdx_append_of_length_le (Nat.le_refl _)]; simp
