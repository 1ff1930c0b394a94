/-! what a method leaves as it was; rows of the reference -/
def fr {α : Type} (P : Nat → Nat → Prop) (I I' : Nat → Nat → α) : Prop := ∀ k j, ¬ P k j → I' k j = I k j
theorem fr.rf {α : Type} {P : Nat → Nat → Prop} {I : Nat → Nat → α} : fr P I I := fun _ _ _ => rfl
theorem fr.tr {α : Type} {P : Nat → Nat → Prop} {I I' I'' : Nat → Nat → α} (h : fr P I I') (h2 : fr P I' I'') : fr P I I'' := fun k j n => (h2 k j n).trans (h k j n)
theorem fr.mono {α : Type} {P P' : Nat → Nat → Prop} {I I' : Nat → Nat → α} (h : fr P I I') (hp : ∀ k j, P k j → P' k j) : fr P' I I' := fun k j n => h k j (fun z => n (hp k j z))
theorem up2_s {α : Type} (I : Nat → Nat → α) (k j : Nat) (x : α) : up2 I k j x k j = x := by simp [up2]
theorem up2_k {α : Type} (I : Nat → Nat → α) {k j a : Nat} (x : α) (h : a ≠ k) : up2 I k j x a = I a := by simp [up2, h]
theorem up2_j {α : Type} (I : Nat → Nat → α) {k j b : Nat} (x : α) (h : b ≠ j) : up2 I k j x k b = I k b := by simp [up2, h]
theorem up2_n {α : Type} (I : Nat → Nat → α) {k j a b : Nat} (x : α) (h : ¬ (a = k ∧ b = j)) : up2 I k j x a b = I a b := by
  by_cases h1 : a = k
  · subst h1; exact up2_j I x (fun z => h ⟨rfl, z⟩)
  · rw [up2_k I x h1]
theorem up2_2 {α : Type} (I : Nat → Nat → α) (k j : Nat) (x y : α) : up2 (up2 I k j x) k j y = up2 I k j y := by
  funext a
  by_cases h : a = k
  · subst h; funext b; by_cases h2 : b = j <;> simp [up2, h2]
  · simp [up2, h]
theorem up2_id {α : Type} (I : Nat → Nat → α) (k j : Nat) : up2 I k j (I k j) = I := by
  funext a
  by_cases h : a = k
  · subst h; funext b; by_cases h2 : b = j <;> simp [up2, h2]
  · simp [up2, h]
theorem fr.up {α : Type} {P : Nat → Nat → Prop} {I : Nat → Nat → α} {k j : Nat} {x : α} (h : P k j) : fr P I (up2 I k j x) := fun a b n => up2_n I x (fun z => n (by rw [z.1, z.2]; exact h))
def ent (I : Nat → Nat → Int32) (p : Nat) (l : Lt) : Prop := I 30 p = nI l.1 ∧ I 31 p = l.2.1 ∧ I 32 p = nI l.2.2.1 ∧ (p < 320 → I 33 p = bI l.2.2.2)
/-- the reference's rows of the STORE x -/
def rowR (I : Nat → Nat → Int32) (x : Nat) (L : List Lt) : Prop := I 22 x = nI L.length ∧ ∀ i l, L[i]? = some l → ent I (40 * x + i) l
/-- the places of the STORE x -/
def pS (x k j : Nat) : Prop := (k = 22 ∧ j = x) ∨ (30 ≤ k ∧ k ≤ 33 ∧ 40 * x ≤ j ∧ j < 40 * x + 40)
theorem nar_bI (b : Bool) : vp_nar .boolean (bI b) = bI b := by cases b <;> decide
theorem bI_eq (b : Bool) : bI b = 0 ↔ b = false := by cases b <;> decide
def w4 (I : Nat → Nat → Int32) (p : Nat) (l : Lt) (v : Int32) : Nat → Nat → Int32 := up2 (up2 (up2 (up2 I 30 p (nI l.1)) 31 p l.2.1) 32 p (nI l.2.2.1)) 33 p v
theorem w4_same (I : Nat → Nat → Int32) (p : Nat) (l : Lt) (v : Int32) (hv : p < 320 → v = bI l.2.2.2) : ent (w4 I p l v) p l := by
  refine ⟨?_, ?_, ?_, fun z => ?_⟩ <;> simp [w4, up2]
  exact hv z
theorem w4_other {I : Nat → Nat → Int32} {p q : Nat} {l l' : Lt} {v : Int32} (h : q ≠ p) (e : ent I q l') : ent (w4 I p l v) q l' := by
  obtain ⟨a, b, c, d⟩ := e
  refine ⟨?_, ?_, ?_, fun z => ?_⟩
  · simp [w4, up2, h, a]
  · simp [w4, up2, h, b]
  · simp [w4, up2, h, c]
  · have := d z; simp [w4, up2, h, this]
theorem w4_22 (I : Nat → Nat → Int32) (p : Nat) (l : Lt) (v : Int32) : (w4 I p l v) 22 = I 22 := rfl
theorem w4_fr {I : Nat → Nat → Int32} {p x : Nat} {l : Lt} {v : Int32} (h : 40 * x ≤ p ∧ p < 40 * x + 40) : fr (pS x) I (w4 I p l v) :=
  (((fr.up (Or.inr ⟨by omega, by omega, h⟩)).tr (fr.up (Or.inr ⟨by omega, by omega, h⟩))).tr (fr.up (Or.inr ⟨by omega, by omega, h⟩))).tr (fr.up (Or.inr ⟨by omega, by omega, h⟩))
theorem ent_fr {P : Nat → Nat → Prop} {I I' : Nat → Nat → Int32} {p : Nat} {l : Lt} (h : fr P I I') (e : ent I p l) (n : ∀ k, 30 ≤ k → k ≤ 33 → ¬ P k p) : ent I' p l := by
  obtain ⟨a, b, c, d⟩ := e
  exact ⟨(h 30 p (n 30 (by omega) (by omega))).trans a, (h 31 p (n 31 (by omega) (by omega))).trans b, (h 32 p (n 32 (by omega) (by omega))).trans c, fun z => (h 33 p (n 33 (by omega) (by omega))).trans (d z)⟩
theorem rowR_fr {P : Nat → Nat → Prop} {I I' : Nat → Nat → Int32} {x : Nat} {L : List Lt} (h : fr P I I') (e : rowR I x L) (n0 : ¬ P 22 x) (n : ∀ k j, 30 ≤ k → k ≤ 33 → 40 * x ≤ j → j < 40 * x + L.length → ¬ P k j) : rowR I' x L :=
  ⟨(h 22 x n0).trans e.1, fun i l hl => ent_fr h (e.2 i l hl) (fun k h1 h2 => n k _ h1 h2 (by omega) (by have := lt_get hl; omega))⟩
/-- the first LOT's BOOK and TRUE change -/
theorem rowR_head {I : Nat → Nat → Int32} {x : Nat} {l : Lt} {r : List Lt} {b : Int32} {t : Nat} (h : rowR I x (l :: r)) : rowR (up2 (up2 I 32 (40 * x) (nI t)) 31 (40 * x) b) x ((l.1, b, t, l.2.2.2) :: r) := by
  refine ⟨h.1, fun i l' hl => ?_⟩
  cases i with
  | zero =>
    have e := h.2 0 l rfl
    simp only [List.getElem?_cons_zero, Option.some.injEq] at hl
    subst hl
    refine ⟨e.1, ?_, ?_, e.2.2.2⟩
    · exact up2_s _ _ _ _
    · show (up2 (up2 I 32 (40 * x) (nI t)) 31 (40 * x) b) 32 (40 * x) = nI t
      rw [up2_k _ _ (by decide), up2_s]
  | succ i =>
    have e := h.2 (i + 1) l' hl
    refine ⟨e.1, ?_, ?_, e.2.2.2⟩
    · rw [up2_n _ _ (by omega)]; exact e.2.1
    · rw [up2_n _ _ (by omega), up2_n _ _ (by omega)]; exact e.2.2.1
theorem head_fr {I : Nat → Nat → Int32} {x t : Nat} {b : Int32} : fr (pS x) I (up2 (up2 I 32 (40 * x) (nI t)) 31 (40 * x) b) := (fr.up (Or.inr ⟨by omega, by omega, by omega, by omega⟩)).tr (fr.up (Or.inr ⟨by omega, by omega, by omega, by omega⟩))
/-- one LOT of the row goes: the step of the loop that moves the others -/
theorem goes_at {L : List Lt} {i j : Nat} (h : i ≤ j) : (L.eraseIdx i)[j]? = L[j + 1]? := by
  rw [List.getElem?_eraseIdx, if_neg (by omega)]
theorem goes_lo {L : List Lt} {i j : Nat} (h : j < i) : (L.eraseIdx i)[j]? = L[j]? := by
  rw [List.getElem?_eraseIdx, if_pos h]
theorem er_len {L : List Lt} {i : Nat} (h : i < L.length) : (L.eraseIdx i).length = L.length - 1 := List.length_eraseIdx_of_lt h
theorem tk_0 (L : List Lt) (f : Int64) : tk 0 L f = (L, f) := by cases L <;> simp [tk]
theorem tk_nil (n : Nat) (f : Int64) : tk n [] f = ([], f) := by simp [tk]
theorem tk_lt {n : Nat} {l : Lt} {r : List Lt} {f : Int64} (h0 : 0 < n) (h : n < l.2.2.1) : tk n (l :: r) f = ((l.1, l.2.1 - nI n, l.2.2.1 - n, l.2.2.2) :: r, f) := by
  rw [tk, if_neg (by omega), if_pos h]
theorem tk_ge {n : Nat} {l : Lt} {r : List Lt} {f : Int64} (h0 : 0 < n) (h : l.2.2.1 ≤ n) : tk n (l :: r) f = tk (n - l.2.2.1) r (f + (l.2.1 - nI l.2.2.1).toInt64) := by
  rw [tk, if_neg (by omega), if_neg (by omega)]
theorem sub1_inc (a : Nat) : nI a - nI 1 + Int32.ofInt 1 = nI a := by
  rw [show Int32.ofInt 1 = nI 1 from rfl, Int32.sub_add_cancel]
theorem pt_0 (mo : Nat) (L : List Lt) : pt 0 mo L = L := by simp [pt]
theorem pt_nil {n mo : Nat} (h : n ≠ 0) : pt n mo [] = [] ++ [(mo, nI n, n, false)] := by simp [pt, h]
theorem last_at {L : List Lt} : L.getLast? = L[L.length - 1]? := List.getLast?_eq_getElem? 
theorem pt_new {n mo : Nat} {L : List Lt} {l : Lt} (h : n ≠ 0) (hl : L[L.length - 1]? = some l) (h1 : l.1 ≠ mo) (h2 : L.length < 40) : pt n mo L = L ++ [(mo, nI n, n, false)] := by
  rw [pt, if_neg h, last_at, hl]
  exact if_pos ⟨h1, h2⟩
theorem pt_mod {n mo : Nat} {L : List Lt} {l : Lt} (h : n ≠ 0) (hl : L[L.length - 1]? = some l) (h1 : l.1 = mo ∨ 40 ≤ L.length) : pt n mo L = L.dropLast ++ [(l.1, l.2.1 + nI n, l.2.2.1 + n, false)] := by
  rw [pt, if_neg h, last_at, hl]
  exact if_neg (fun z => by rcases h1 with q | q; exact z.1 q; omega)
theorem row_new {I I' : Nat → Nat → Int32} {x n mo : Nat} {L : List Lt} (h : rowR I x L) (hl : L.length < 40) (h0 : I' 22 x = nI (L.length + 1)) (h1 : I' 30 (40 * x + L.length) = nI mo) (h2 : I' 31 (40 * x + L.length) = nI n) (h3 : I' 32 (40 * x + L.length) = nI n) (h4 : I' 33 (40 * x + L.length) = 0) (hf : ∀ k j, ¬ (k = 22 ∧ j = x) → ¬ (30 ≤ k ∧ k ≤ 33 ∧ j = 40 * x + L.length) → I' k j = I k j) : rowR I' x (L ++ [(mo, nI n, n, false)]) ∧ fr (pS x) I I' := by
  refine ⟨⟨by rw [h0, List.length_append]; rfl, fun i l hi => ?_⟩, fun k j z => hf k j (fun q => z (Or.inl q)) (fun q => z (Or.inr ⟨q.1, q.2.1, by omega, by omega⟩))⟩
  by_cases q : i < L.length
  · rw [List.getElem?_append_left q] at hi
    obtain ⟨a, b, c, d⟩ := h.2 i l hi
    exact ⟨(hf _ _ (by omega) (by omega)).trans a, (hf _ _ (by omega) (by omega)).trans b, (hf _ _ (by omega) (by omega)).trans c, fun z => (hf _ _ (by omega) (by omega)).trans (d z)⟩
  · have := lt_get hi
    rw [List.length_append] at this
    have e : i = L.length := by simp at this; omega
    subst e
    rw [List.getElem?_append_right (by omega)] at hi
    simp at hi
    subst hi
    exact ⟨h1, h2, h3, fun _ => h4⟩
theorem row_mod {I I' : Nat → Nat → Int32} {x n : Nat} {L : List Lt} {l : Lt} (h : rowR I x L) (hl : L.length ≤ 40) (hg : L[L.length - 1]? = some l) (h2 : I' 31 (40 * x + (L.length - 1)) = l.2.1 + nI n) (h3 : I' 32 (40 * x + (L.length - 1)) = nI (l.2.2.1 + n)) (h4 : I' 33 (40 * x + (L.length - 1)) = 0) (hf : ∀ k j, ¬ (31 ≤ k ∧ k ≤ 33 ∧ j = 40 * x + (L.length - 1)) → I' k j = I k j) : rowR I' x (L.dropLast ++ [(l.1, l.2.1 + nI n, l.2.2.1 + n, false)]) ∧ fr (pS x) I I' := by
  have hpos := lt_get hg
  refine ⟨⟨by rw [hf _ _ (by omega), h.1, List.length_append, List.length_dropLast]; congr 1; simp; omega, fun i l' hi => ?_⟩, fun k j z => hf k j (fun q => z (Or.inr ⟨by omega, by omega, by omega, by omega⟩))⟩
  by_cases q : i < L.length - 1
  · rw [List.getElem?_append_left (by rw [List.length_dropLast]; exact q), List.getElem?_dropLast, if_pos q] at hi
    obtain ⟨a, b, c, d⟩ := h.2 i l' hi
    exact ⟨(hf _ _ (by omega)).trans a, (hf _ _ (by omega)).trans b, (hf _ _ (by omega)).trans c, fun z => (hf _ _ (by omega)).trans (d z)⟩
  · have := lt_get hi
    rw [List.length_append, List.length_dropLast] at this
    have e : i = L.length - 1 := by simp at this; omega
    subst e
    rw [List.getElem?_append_right (by rw [List.length_dropLast]; omega), List.length_dropLast] at hi
    simp at hi
    subst hi
    obtain ⟨a, b, c, d⟩ := h.2 _ _ hg
    exact ⟨(hf _ _ (by omega)).trans a, h2, h3, fun _ => h4⟩
