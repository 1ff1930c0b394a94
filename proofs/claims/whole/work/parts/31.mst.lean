/-- the reference's group g shows x -/
def mst (I : Nat → Nat → Int32) (J : Nat → Nat → Int64) (g : Nat) (I1 : Nat → Nat → Int32) (J1 : Nat → Nat → Int64) (x : MS) : Prop := MRg I1 J1 g x.2.2.2.2 ∧ J1 16 g = lN x.2.1 ∧ I1 15 g = nI x.1 ∧ crR I1 g x.2.2.1 ∧ fr (fun k j => pG g k j ∨ k = 2) I I1 ∧ fr (pGJ g) J J1
theorem mst_step {I I1 I2 : Nat → Nat → Int32} {J J1 J2 : Nat → Nat → Int64} {g tn : Nat} {E R ed : Nat → Nat} {x : MS} (h : mst I J g I1 J1 x) (hs : stg I1 J1 g (x.1 + 1) (cleft (x.1 + 1) x.2.2.1) I2 J2 (mth3 tn E R x.2.2.2.1 ed (x.1 + 1) x.2.1 x.2.2.1 x.2.2.2.2).1 (mthT tn E R x.2.2.2.1 ed (x.1 + 1) x.2.1 x.2.2.1 x.2.2.2.2)) : mst I J g I2 J2 (mstep tn E R ed x) := by
  obtain ⟨-, -, -, -, f1, f2⟩ := h
  obtain ⟨a, b, c, d, e, f⟩ := hs
  exact ⟨a, b, c, d, f1.tr (e.mono (fun _ _ z => Or.inl z)), f2.tr f⟩
def rd00 (rd : Nat → Rd) : Nat → Rd := fun r => ((rd r).1, (rd r).2.1, (rd r).2.2.1, (rd r).2.2.2.1, 0)
theorem step_end {sc : Int32 × Int32 × Int32} {I I1 I2 : Nat → Nat → Int32} {J J1 : Nat → Nat → Int64} {B B' : Nat} {tp : List Nat} {nx : Nat → Nat} {tn rn k : Nat} {E R Hv : Nat → Nat} {mo co mo' : Nat} {C : List Cr} {T : Nat → ST} {rd : Nat → Rd} {x : MS} (hm : mrep sc I J tp nx tn rn E R Hv mo co C T rd) (hv : sinv B tp nx tn rn E R Hv mo co C T rd) (v12 : C.length ≤ 60) (hst : mst I J 0 I1 J1 x) (h9 : ∀ t, t < tn → (I1 9 t = nI (x.2.2.2.1 t) ∨ (x.2.2.2.1 t = 0 ∧ I1 9 t = -1))) (hf : fr (fun a b => a = 14) I1 I2) (h14 : ∀ r, r < k → I2 14 r = 0) (h14b : ∀ r, k ≤ r → I2 14 r = I1 14 r) (he : k = rn) (hmo : x.1 = mo') (hl : ∀ t, t < 8 → inv x.1 (R t) B' (x.2.2.2.2 t)) (hC : x.2.2.1.length ≤ 60) (hat : ∀ t, tn ≤ t → x.2.2.2.2 t = T t) :
    mrep sc I2 J1 tp nx tn rn E R x.2.2.2.1 mo' x.2.1 x.2.2.1 x.2.2.2.2 (rd00 rd) := by
  obtain ⟨m0, m1, m2, m3, m4, m5, m6, m7, m8, m9, m10, m11, m12, m13⟩ := hm
  obtain ⟨a1, a2, a3, a4, f1, f2⟩ := hst
  obtain ⟨-, -, ⟨v4, v5⟩, -, -, -, ⟨v14, v15⟩, -, v17⟩ := hv
  have k1 : ∀ a b, a ≠ 2 → a ≠ 9 → a ≠ 14 → a < 15 → I2 a b = I a b := fun a b h1 h2 h3 h4 => (hf a b h3).trans (f1 a b (by simp only [pG, pC]; omega))
  subst hmo
  refine ⟨m0, fun i b h => (k1 0 i (by omega) (by omega) (by omega) (by omega)).trans (m1 i b h), fun j h => (k1 3 j (by omega) (by omega) (by omega) (by omega)).trans (m2 j h), m3, m4, fun j h => (k1 7 j (by omega) (by omega) (by omega) (by omega)).trans (m5 j h), fun j h => (k1 8 j (by omega) (by omega) (by omega) (by omega)).trans (m6 j h), fun t ht => by rw [hf 9 t (by omega)]; exact h9 t ht, (hf 15 0 (by omega)).trans a3, a2, crR_fr hf a4 hC (by omega) (by intros; omega), MRg_keep (P' := fun _ _ => False) a1 (fun t ht => (hl t ht).1) hf fr.rf (fun k j z => by omega) (fun k j z => z.elim), fun r hr => ?_, fun t h1 h2 => ?_⟩
  · obtain ⟨b1, b2, b3, b4, b5⟩ := m12 r hr
    refine ⟨(k1 10 r (by omega) (by omega) (by omega) (by omega)).trans b1, (k1 11 r (by omega) (by omega) (by omega) (by omega)).trans b2, (k1 12 r (by omega) (by omega) (by omega) (by omega)).trans b3, (k1 13 r (by omega) (by omega) (by omega) (by omega)).trans b4, ?_⟩
    by_cases q : r < k
    · rw [h14 r q]; rfl
    · rw [h14b r (by omega), f1 14 r (by simp only [pG, pC]; omega), b5, v17 r (by omega)]; rfl
  · refine slotR_fr (P := fun a b => (pG 0 a b ∨ a = 2) ∨ a = 14) ((f1.mono (fun _ _ z => Or.inl z)).tr (hf.mono (fun _ _ z => Or.inr z))) f2 (m13 t h1 h2) (by simp [st0]) (by simp only [pG, pC]; omega) (fun a b h3 h4 h5 h6 z => by simp only [pG, pC] at z; omega) (fun a h3 h4 z => by simp only [pGJ, pXg] at z; omega)
/-- what the reference copies, to foretell -/
def cpT (tn : Nat) (J : Nat → Nat → Int64) (T : Nat → ST) : Nat → ST := fun t => if t < tn then ((T t).1, (0, J 25 (8 + t), J 27 (8 + t), J 28 (8 + t), J 29 (8 + t), J 23 (8 + t)), (T t).2.2) else st0
def pI1 (t k j : Nat) : Prop := (k = 15 ∧ j = 1) ∨ (k = 17 ∧ j = 1) ∨ (18 ≤ k ∧ k ≤ 20 ∧ 60 ≤ j ∧ j < 120) ∨ (k = 22 ∧ 8 ≤ j ∧ j < 8 + t) ∨ (30 ≤ k ∧ k ≤ 33 ∧ 320 ≤ j ∧ j < 40 * (8 + t))
def pJ1 (t k j : Nat) : Prop := (k = 16 ∧ j = 1) ∨ (21 ≤ k ∧ k ≤ 29 ∧ 8 ≤ j ∧ j < 8 + t)
def z3 (I : Nat → Nat → Int32) (p : Nat) (l : Lt) : Nat → Nat → Int32 := up2 (up2 (up2 I 30 p (nI l.1)) 31 p l.2.1) 32 p (nI l.2.2.1)
theorem z3_same (I : Nat → Nat → Int32) {p : Nat} (l : Lt) (hp : 320 ≤ p) : ent (z3 I p l) p l := by
  refine ⟨?_, ?_, ?_, fun z => by omega⟩ <;> simp [z3, up2]
theorem z3_other {I : Nat → Nat → Int32} {p q : Nat} {l l' : Lt} (h : q ≠ p) (e : ent I q l') : ent (z3 I p l) q l' := by
  obtain ⟨a, b, c, d⟩ := e
  refine ⟨?_, ?_, ?_, fun z => ?_⟩
  · simp [z3, up2, h, a]
  · simp [z3, up2, h, b]
  · simp [z3, up2, h, c]
  · have := d z; simp [z3, up2, this]
theorem z3_fr {I : Nat → Nat → Int32} {p x : Nat} {l : Lt} (h : 40 * x ≤ p ∧ p < 40 * x + 40) : fr (pS x) I (z3 I p l) := ((fr.up (Or.inr ⟨by omega, by omega, h⟩)).tr (fr.up (Or.inr ⟨by omega, by omega, h⟩))).tr (fr.up (Or.inr ⟨by omega, by omega, h⟩))
