/-! what holds of every STORE at all times, and stays so -/
def mths (L : List Lt) : List Nat := L.map Prod.fst
def inv (mo r B : Nat) (s : ST) : Prop := s.2.2.length ≤ 40 ∧ tsum s.2.2 ≤ r ∧ s.1.1 ≤ B ∧ s.1.2 ≤ B ∧ (∀ q ∈ mths s.2.2, q ≤ mo) ∧ (mths s.2.2).Pairwise (· ≤ ·)
theorem mths_mem {L : List Lt} {mo : Nat} (h : ∀ q ∈ mths L, q ≤ mo) : ∀ l ∈ L, l.1 ≤ mo := fun l hl => h _ (List.mem_map.mpr ⟨l, hl, rfl⟩)
theorem inv.okS {mo r B : Nat} {s : ST} (h : inv mo r B s) (hr : r ≤ 50000) (hm : mo ≤ 4000) (hB : B < 2 ^ 50) : okS r s := ⟨⟨h.1, Nat.le_trans h.2.1 hr, fun l hl => Nat.le_trans (mths_mem h.2.2.2.2.1 l hl) hm⟩, h.2.1, by have := h.2.2.1; omega, by have := h.2.2.2.1; omega⟩
theorem inv.mono {mo mo' r B B' : Nat} {s : ST} (h : inv mo r B s) (h1 : mo ≤ mo') (h2 : B ≤ B') : inv mo' r B' s := ⟨h.1, h.2.1, Nat.le_trans h.2.2.1 h2, Nat.le_trans h.2.2.2.1 h2, fun q hq => Nat.le_trans (h.2.2.2.2.1 q hq) h1, h.2.2.2.2.2⟩
theorem tk_mths : ∀ (L : List Lt) (n : Nat) (f : Int64), (mths (tk n L f).1).Sublist (mths L)
  | [], n, f => by simp [tk, mths]
  | l :: r, n, f => by
    rw [tk]
    by_cases h : n = 0
    · rw [if_pos h]; exact List.Sublist.refl _
    · rw [if_neg h]
      by_cases h2 : n < l.2.2.1
      · rw [if_pos h2]; exact List.Sublist.refl _
      · rw [if_neg h2]; exact (tk_mths r _ _).cons _
theorem sp_mths (now a p : Nat) : ∀ (L : List Lt) (f : Int64) (s : Nat), (mths (sp now a p L f s).1).Sublist (mths L)
  | [], f, s => by simp [sp, mths]
  | l :: r, f, s => by
    rw [sp]
    by_cases h1 : now < l.1 + a
    · rw [if_pos h1]; exact (sp_mths now a p r f s).cons₂ _
    · rw [if_neg h1]
      by_cases h2 : l.2.2.1 - spl p l.2.2.1 = 0
      · rw [if_pos h2]; exact (sp_mths now a p r _ _).cons _
      · rw [if_neg h2]; exact (sp_mths now a p r _ _).cons₂ _
theorem mths_app (a b : List Lt) : mths (a ++ b) = mths a ++ mths b := by simp [mths]
theorem pt_mths (n mo : Nat) (L : List Lt) : mths (pt n mo L) = mths L ∨ mths (pt n mo L) = mths L ++ [mo] := by
  by_cases h : n = 0
  · subst h; rw [pt_0]; exact Or.inl rfl
  · cases hl : L[L.length - 1]? with
    | none =>
      have : L = [] := by
        cases L with
        | nil => rfl
        | cons a b => simp at hl
      subst this
      rw [pt_nil h]; exact Or.inr rfl
    | some l =>
      by_cases hc : l.1 ≠ mo ∧ L.length < 40
      · rw [pt_new h hl hc.1 hc.2]; exact Or.inr (mths_app _ _)
      · rw [pt_mod h hl (by by_cases q : l.1 = mo; exact Or.inl q; exact Or.inr (by omega)), mths_app]
        have hne : L ≠ [] := by intro z; subst z; simp at hl
        have h3 := List.dropLast_concat_getLast hne
        have h4 : L.getLast hne = l := by
          rw [List.getLast_eq_getElem]
          exact (List.getElem?_eq_some_iff.mp hl).2
        rw [h4] at h3
        refine Or.inl ?_
        conv => rhs; rw [← h3]
        rw [mths_app]; rfl
theorem pt_inv {n mo : Nat} {L : List Lt} (h1 : ∀ q ∈ mths L, q ≤ mo) (h2 : (mths L).Pairwise (· ≤ ·)) : (∀ q ∈ mths (pt n mo L), q ≤ mo) ∧ (mths (pt n mo L)).Pairwise (· ≤ ·) := by
  rcases pt_mths n mo L with e | e <;> rw [e]
  · exact ⟨h1, h2⟩
  · refine ⟨fun q hq => ?_, List.pairwise_append.mpr ⟨h2, by simp, fun a ha b hb => ?_⟩⟩
    · rcases List.mem_append.mp hq with hq | hq
      · exact h1 q hq
      · simp at hq; omega
    · simp at hb; subst hb; exact h1 a ha
theorem inv_rcv {mo r B n : Nat} {s : ST} (h : inv mo r B s) : inv mo r (B + n) (rcv r n mo s) := by
  obtain ⟨a, b, c, d, e, f⟩ := h
  obtain ⟨e', f'⟩ := pt_inv (n := min n (r - tsum s.2.2)) e f
  refine ⟨pt_len _ _ _ a, ?_, ?_, ?_, e', f'⟩
  · simp only [rcv]; rw [pt_sum]; omega
  · simp only [rcv]; omega
  · simp only [rcv]; omega
theorem inv_hvs {mo r B h : Nat} {s : ST} (hi : inv mo r B s) : inv mo r (B + h) (hvs r mo h s) := by
  obtain ⟨a, b, c, d, e, f⟩ := hi
  unfold hvs
  by_cases q : mo % 12 = 9
  · rw [if_pos q]
    obtain ⟨e', f'⟩ := pt_inv (n := payN r (rea h s)) e f
    have hp : payN r (rea h s) ≤ r - tsum s.2.2 := by simp only [payN, rea]; omega
    refine ⟨pt_len _ _ _ a, ?_, ?_, ?_, e', f'⟩
    · simp only [pay, rea] at *; rw [pt_sum]; omega
    · simp only [pay, rea]; omega
    · simp only [pay, rea]; omega
  · rw [if_neg q]
    exact ⟨a, b, by simp only [rea]; omega, by simp only [rea]; omega, e, f⟩
theorem inv_trd {mo r B e co : Nat} {ed : Nat → Nat} {s : ST} (hi : inv mo r B s) (he : ed 3 ≤ 9999) : inv mo r (B + 9999) (trd e r ed mo co s).2 := by
  obtain ⟨a, b, c, d, h1, h2⟩ := hi
  unfold trd
  by_cases q : prc e s ≤ ed 0
  · rw [if_pos q]
    have hb := buy_le e r ed co s
    obtain ⟨e', f'⟩ := pt_inv (n := buyN e r ed co s) h1 h2
    refine ⟨pt_len _ _ _ a, ?_, ?_, ?_, e', f'⟩
    · simp only [buyS]; rw [pt_sum]; omega
    · simp only [buyS]; omega
    · simp only [buyS]; omega
  · rw [if_neg q]
    by_cases q2 : ed 2 ≤ prc e s
    · rw [if_pos q2]
      have hs : selN ed s ≤ 9999 := by simp only [selN]; omega
      have hm := tk_mths s.2.2 (selN ed s) s.2.1.2.2.2.2.2
      refine ⟨Nat.le_trans (tk_len _ _ _) a, ?_, ?_, ?_, fun q hq => h1 q (hm.subset hq), h2.sublist hm⟩
      · simp only [selS]; rw [tk_sum]; omega
      · simp only [selS]; omega
      · simp only [selS]; omega
    · rw [if_neg q2]
      exact ⟨a, b, by show s.1.1 ≤ B + 9999; omega, by show s.1.2 ≤ B + 9999; omega, h1, h2⟩
theorem co_trd {mo r e co : Nat} {ed : Nat → Nat} {s : ST} (he : ed 3 ≤ 9999) : (trd e r ed mo co s).1 ≤ co + 10000000 := by
  unfold trd
  by_cases q : prc e s ≤ ed 0
  · rw [if_pos q]; show co - _ ≤ _; omega
  · rw [if_neg q]
    by_cases q2 : ed 2 ≤ prc e s
    · rw [if_pos q2]
      have hs : selN ed s ≤ 9999 := by simp only [selN]; omega
      have := Nat.mul_le_mul hs (prc_le e s)
      show co + _ ≤ _; omega
    · rw [if_neg q2]; show co ≤ _; omega
theorem inv_eat {mo r B e : Nat} {s : ST} (hi : inv mo r B s) : inv mo r B (eat e s) := ⟨hi.1, hi.2.1, by have := hi.2.2.1; simp only [eat]; omega, hi.2.2.2.1, hi.2.2.2.2.1, hi.2.2.2.2.2⟩
theorem inv_spo {mo r B a p : Nat} {s : ST} (hi : inv mo r B s) (hp : p ≤ 100) : inv mo r B (spo mo a p s) := by
  have hm := sp_mths mo a p s.2.2 s.2.1.2.2.2.2.2 0
  obtain ⟨i1, i2, -⟩ := sp_all (P := fun _ => True) mo a p hp s.2.2 s.2.1.2.2.2.2.2 0 (fun _ _ => trivial)
  exact ⟨Nat.le_trans i2 hi.1, Nat.le_trans i1 hi.2.1, hi.2.2.1, hi.2.2.2.1, fun q hq => hi.2.2.2.2.1 q (hm.subset hq), hi.2.2.2.2.2.sublist hm⟩
theorem trnN_le {o : Nat} {s : ST} (ho : 1 ≤ o) : trnN o s ≤ tsum s.2.2 := by
  unfold trnN
  have : (tsum s.2.2 + o - 1) / o ≤ tsum s.2.2 := by
    rcases Nat.eq_zero_or_pos (tsum s.2.2) with h | h
    · rw [h]; have : (0 + o - 1) / o = 0 := Nat.div_eq_of_lt (by omega); omega
    · refine Nat.div_le_of_le_mul ?_
      have : tsum s.2.2 + o ≤ o * tsum s.2.2 + 1 := by
        obtain ⟨k, hk⟩ : ∃ k, tsum s.2.2 = k + 1 := ⟨tsum s.2.2 - 1, by omega⟩
        rw [hk, Nat.mul_add, Nat.mul_one]
        have h1 : 1 * k ≤ o * k := Nat.mul_le_mul_right k ho
        omega
      omega
  omega
theorem inv_trn {mo r B o : Nat} {s : ST} (hi : inv mo r B s) (ho : 1 ≤ o) : inv mo r B (trn o mo s) := by
  obtain ⟨a, b, c, d, h1, h2⟩ := hi
  have hn := trnN_le (s := s) ho
  have hm := tk_mths s.2.2 (trnN o s) s.2.1.2.2.2.2.2
  obtain ⟨e', f'⟩ := pt_inv (n := trnN o s) (L := (tk (trnN o s) s.2.2 s.2.1.2.2.2.2.2).1) (fun q hq => h1 q (hm.subset hq)) (h2.sublist hm)
  refine ⟨pt_len _ _ _ (Nat.le_trans (tk_len _ _ _) a), ?_, c, d, e', f'⟩
  simp only [trn]; rw [pt_sum, tk_sum]; omega
/-! groups of the reference: 0 the realm, 1 what is foretold -/
def MRg (I : Nat → Nat → Int32) (J : Nat → Nat → Int64) (g : Nat) (T : Nat → ST) : Prop := ∀ t, t < 8 → slotR I J (8 * g + t) (T t)
theorem MRg_up {P P' : Nat → Nat → Prop} {I I' : Nat → Nat → Int32} {J J' : Nat → Nat → Int64} {g t0 : Nat} {T : Nat → ST} {s' : ST} (h : MRg I J g T) (hl : ∀ t, t < 8 → (T t).2.2.length ≤ 40) (hI : fr P I I') (hJ : fr P' J J') (hs : slotR I' J' (8 * g + t0) s') (hP : ∀ k j, P k j → pS (8 * g + t0) k j ∨ k < 21) (hP' : ∀ k j, P' k j → pX (8 * g + t0) k j ∨ k < 21) : MRg I' J' g (upf T t0 s') := by
  intro t ht
  by_cases q : t = t0
  · subst q; rw [show upf T t s' t = s' by simp [upf]]; exact hs
  · rw [show upf T t0 s' t = T t by simp [upf, q]]
    refine slotR_fr hI hJ (h t ht) (hl t ht) (fun z => ?_) (fun k j h1 h2 h3 h4 z => ?_) (fun k h1 h2 z => ?_)
    · rcases hP _ _ z with w | w
      · simp only [pS] at w; omega
      · omega
    · rcases hP _ _ z with w | w
      · simp only [pS] at w; omega
      · omega
    · rcases hP' _ _ z with w | w
      · simp only [pX] at w; omega
      · omega
theorem MRg_keep {P P' : Nat → Nat → Prop} {I I' : Nat → Nat → Int32} {J J' : Nat → Nat → Int64} {g : Nat} {T : Nat → ST} (h : MRg I J g T) (hl : ∀ t, t < 8 → (T t).2.2.length ≤ 40) (hI : fr P I I') (hJ : fr P' J J') (hP : ∀ k j, P k j → ¬ (k = 22 ∧ 8 * g ≤ j ∧ j < 8 * g + 8) ∧ ¬ (30 ≤ k ∧ k ≤ 33 ∧ 320 * g ≤ j ∧ j < 320 * g + 320)) (hP' : ∀ k j, P' k j → ¬ (21 ≤ k ∧ k ≤ 29 ∧ 8 * g ≤ j ∧ j < 8 * g + 8)) : MRg I' J' g T := by
  intro t ht
  refine slotR_fr hI hJ (h t ht) (hl t ht) (fun z => ?_) (fun k j h1 h2 h3 h4 z => ?_) (fun k h1 h2 z => ?_)
  · have := hP _ _ z; omega
  · have := hP _ _ z; omega
  · have := hP' _ _ z; omega
/-! carts on the way -/
abbrev Cr : Type := Nat × Nat × Nat
def crE (I : Nat → Nat → Int32) (p : Nat) (c : Cr) : Prop := I 18 p = nI c.1 ∧ I 19 p = nI c.2.1 ∧ I 20 p = nI c.2.2
def crR (I : Nat → Nat → Int32) (g : Nat) (C : List Cr) : Prop := I 17 g = nI C.length ∧ ∀ i c, C[i]? = some c → crE I (60 * g + i) c
def unl (R : Nat → Nat) (mo : Nat) : List Cr → (Nat → ST) → (Nat → ST)
  | [], T => T
  | c :: r, T => if c.2.1 ≤ mo then unl R mo r (upf T c.1 (rcv (R c.1) c.2.2 mo (T c.1))) else unl R mo r T
def pC (g k j : Nat) : Prop := (k = 17 ∧ j = g) ∨ (18 ≤ k ∧ k ≤ 20 ∧ 60 * g ≤ j ∧ j < 60 * g + 60) ∨ (k = 22 ∧ 8 * g ≤ j ∧ j < 8 * g + 8) ∨ (30 ≤ k ∧ k ≤ 33 ∧ 320 * g ≤ j ∧ j < 320 * g + 320)
def pXg (g k j : Nat) : Prop := 21 ≤ k ∧ k ≤ 29 ∧ 8 * g ≤ j ∧ j < 8 * g + 8
theorem crE_fr {P : Nat → Nat → Prop} {I I' : Nat → Nat → Int32} {p : Nat} {c : Cr} (h : fr P I I') (e : crE I p c) (n : ∀ k, 18 ≤ k → k ≤ 20 → ¬ P k p) : crE I' p c := ⟨(h 18 p (n 18 (by omega) (by omega))).trans e.1, (h 19 p (n 19 (by omega) (by omega))).trans e.2.1, (h 20 p (n 20 (by omega) (by omega))).trans e.2.2⟩
theorem crR_fr {P : Nat → Nat → Prop} {I I' : Nat → Nat → Int32} {g : Nat} {C : List Cr} (h : fr P I I') (e : crR I g C) (hC : C.length ≤ 60) (n0 : ¬ P 17 g) (n : ∀ k j, 18 ≤ k → k ≤ 20 → 60 * g ≤ j → j < 60 * g + 60 → ¬ P k j) : crR I' g C := ⟨(h 17 g n0).trans e.1, fun i c hc => crE_fr h (e.2 i c hc) (fun k h1 h2 => n k _ h1 h2 (by omega) (by have := lt_get hc; omega))⟩
def w3 (I : Nat → Nat → Int32) (p : Nat) (c : Cr) : Nat → Nat → Int32 := up2 (up2 (up2 I 18 p (nI c.1)) 19 p (nI c.2.1)) 20 p (nI c.2.2)
theorem w3_same (I : Nat → Nat → Int32) (p : Nat) (c : Cr) : crE (w3 I p c) p c := by refine ⟨?_, ?_, ?_⟩ <;> simp [w3, up2]
theorem w3_other {I : Nat → Nat → Int32} {p q : Nat} {c c' : Cr} (h : q ≠ p) (e : crE I q c') : crE (w3 I p c) q c' := by
  obtain ⟨a, b, d⟩ := e
  refine ⟨?_, ?_, ?_⟩ <;> simp [w3, up2, h, a, b, d]
theorem w3_fr {I : Nat → Nat → Int32} {p : Nat} {c : Cr} : fr (fun k j => 18 ≤ k ∧ k ≤ 20 ∧ j = p) I (w3 I p c) := ((fr.up ⟨by omega, by omega, rfl⟩).tr (fr.up ⟨by omega, by omega, rfl⟩)).tr (fr.up ⟨by omega, by omega, rfl⟩)
