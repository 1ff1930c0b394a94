def oth (d : Rd) (t : Nat) : Nat := if d.1 = t then d.2.1 else d.1
theorem cr_push {I : Nat → Nat → Int32} {g : Nat} {C : List Cr} {c : Cr} (h : crR I g C) : crR (up2 (w3 I (60 * g + C.length) c) 17 g (nI (C.length + 1))) g (C ++ [c]) := by
  refine ⟨by rw [up2_s, List.length_append]; rfl, fun i q hq => ?_⟩
  refine crE_fr (fr.up (P := fun k j => k = 17 ∧ j = g) ⟨rfl, rfl⟩) ?_ (fun k h1 h2 z => by omega)
  by_cases z : i < C.length
  · rw [List.getElem?_append_left z] at hq
    exact w3_other (by omega) (h.2 i q hq)
  · have z2 := lt_get hq
    rw [List.length_append] at z2
    have z3 : i = C.length := by simp at z2; omega
    subst z3
    rw [List.getElem?_append_right (by omega)] at hq
    simp at hq
    subst hq
    exact w3_same _ _ _
def pSd (g t n k j : Nat) : Prop := pS (8 * g + t) k j ∨ (k = 17 ∧ j = g) ∨ (18 ≤ k ∧ k ≤ 20 ∧ j = 60 * g + n)
theorem push_fr {I : Nat → Nat → Int32} {g t : Nat} {C : List Cr} {c : Cr} {x : Int32} : fr (pSd g t C.length) I (up2 (w3 I (60 * g + C.length) c) 17 g x) := (w3_fr.mono (fun k j z => Or.inr (Or.inr z))).tr (fr.up (Or.inr (Or.inl ⟨rfl, rfl⟩)))
theorem mrep_move {sc : Int32 × Int32 × Int32} {I I' : Nat → Nat → Int32} {J J' : Nat → Nat → Int64} {B : Nat} {tp : List Nat} {nx : Nat → Nat} {tn rn : Nat} {E R Hv : Nat → Nat} {mo co : Nat} {C : List Cr} {T : Nat → ST} {rd : Nat → Rd} {t r n : Nat} {s' : ST} {c : Cr} (hm : mrep sc I J tp nx tn rn E R Hv mo co C T rd) (hv : sinv B tp nx tn rn E R Hv mo co C T rd) (ht : t < tn) (hr : r < rn) (hC : C.length < 60) (hI : fr (pSd 0 t C.length) I I') (hJ : fr (pX t) J J') (hs : slotR I' J' t s') (hc : crR I' 0 (C ++ [c])) : mrep sc (up2 I' 14 r (nI ((rd r).2.2.2.2 + n))) J' tp nx tn rn E R Hv mo co (C ++ [c]) (upf T t s') (upf rd r ((rd r).1, (rd r).2.1, (rd r).2.2.1, (rd r).2.2.2.1, (rd r).2.2.2.2 + n)) := by
  obtain ⟨m0, m1, m2, m3, m4, m5, m6, m7, m8, m9, m10, m11, m12, m13⟩ := hm
  obtain ⟨-, -, ⟨v4, v5⟩, -, -, ⟨v12, -⟩, ⟨v14, -⟩, -⟩ := hv
  have e0 : 8 * 0 + t = t := by omega
  have hI2 : fr (fun k j => pSd 0 t C.length k j ∨ (k = 14 ∧ j = r)) I (up2 I' 14 r (nI ((rd r).2.2.2.2 + n))) := (hI.mono (fun _ _ z => Or.inl z)).tr (fr.up (Or.inr ⟨rfl, rfl⟩))
  have hs2 : slotR (up2 I' 14 r (nI ((rd r).2.2.2.2 + n))) J' t s' := by
    obtain ⟨a, b, c, d, f, g, i, j, q⟩ := hs
    exact ⟨a, b, c, d, f, g, i, j, q.1, fun i l hl => ent_fr (fr.up (P := fun k j => k = 14) rfl) (q.2 i l hl) (fun k h1 h2 => by omega)⟩
  have k : ∀ a b, a < 14 → up2 I' 14 r (nI ((rd r).2.2.2.2 + n)) a b = I a b := fun a b h => hI2 a b (by simp only [pSd, pS]; omega)
  refine ⟨m0, fun i b h => (k 0 i (by omega)).trans (m1 i b h), fun j h => (k 3 j (by omega)).trans (m2 j h), m3, m4, fun j h => (k 7 j (by omega)).trans (m5 j h), fun j h => (k 8 j (by omega)).trans (m6 j h), fun j h => ?_, (hI2 15 0 (by simp only [pSd, pS]; omega)).trans m8, (hJ 16 0 (by simp [pX])).trans m9, ⟨hc.1, fun i q hq => crE_fr (fr.up (P := fun k j => k = 14) rfl) (hc.2 i q hq) (fun k h1 h2 => by omega)⟩, MRg_up (P := fun k j => pSd 0 t C.length k j ∨ (k = 14 ∧ j = r)) m11 (fun t ht => (v14 t ht).1) hI2 hJ (by rw [e0]; exact hs2) (fun a b z => by simp only [pSd] at z; rw [e0] at *; rcases z with (z | z | z) | z; exact Or.inl z; exact Or.inr (by omega); exact Or.inr (by omega); exact Or.inr (by omega)) (fun a b z => Or.inl (by rw [e0]; exact z)), fun q h => ?_, fun j h1 h2 => slotR_fr hI2 hJ (m13 j h1 h2) (by simp [st0]) (by simp only [pSd, pS]; omega) (fun a b h3 h4 h5 h6 z => by simp only [pSd, pS] at z; omega) (fun a h3 h4 z => by simp only [pX] at z; omega)⟩
  · rw [k 9 j (by omega)]; exact m7 j h
  · obtain ⟨a, b, c, d, e⟩ := m12 q h
    have hk : ∀ a, 10 ≤ a → a ≤ 13 → up2 I' 14 r (nI ((rd r).2.2.2.2 + n)) a q = I a q := fun a h1 h2 => k a q (by omega)
    by_cases z : q = r
    · subst z
      rw [upf_s]
      exact ⟨(hk 10 (by omega) (by omega)).trans a, (hk 11 (by omega) (by omega)).trans b, (hk 12 (by omega) (by omega)).trans c, (hk 13 (by omega) (by omega)).trans d, up2_s _ _ _ _⟩
    · rw [upf_n _ _ z]
      exact ⟨(hk 10 (by omega) (by omega)).trans a, (hk 11 (by omega) (by omega)).trans b, (hk 12 (by omega) (by omega)).trans c, (hk 13 (by omega) (by omega)).trans d, (hI2 14 q (by simp only [pSd, pS]; omega)).trans e⟩
/-! MONTHS one after the other: MONTH, COIN, carts, HARVESTS told, TOWNS -/
abbrev MS : Type := Nat × Nat × List Cr × (Nat → Nat) × (Nat → ST)
def mstep (tn : Nat) (E R ed : Nat → Nat) (x : MS) : MS := (x.1 + 1, (mth3 tn E R x.2.2.2.1 ed (x.1 + 1) x.2.1 x.2.2.1 x.2.2.2.2).1, cleft (x.1 + 1) x.2.2.1, (fun _ => 0), mthT tn E R x.2.2.2.1 ed (x.1 + 1) x.2.1 x.2.2.1 x.2.2.2.2)
def mits (tn : Nat) (E R ed : Nat → Nat) : Nat → MS → MS
  | 0, x => x
  | n + 1, x => mstep tn E R ed (mits tn E R ed n x)
/-- what holds between MONTHS -/
def msI (tn : Nat) (R : Nat → Nat) (B K : Nat) (x : MS) : Prop := (∀ t, t < 8 → inv x.1 (R t) B (x.2.2.2.2 t)) ∧ x.2.1 ≤ K ∧ (x.2.2.1.length ≤ 60 ∧ ∀ c ∈ x.2.2.1, c.1 < tn ∧ c.2.1 ≤ 2100 ∧ c.2.2 ≤ 10000) ∧ (∀ t, x.2.2.2.1 t ≤ 100000)
theorem msI_step {tn : Nat} {E R ed : Nat → Nat} {B K : Nat} {x : MS} (h : msI tn R B K x) (htn : tn ≤ 8) (he : ed 3 ≤ 9999) (hp : ed 6 ≤ 100) : msI tn R (B + 800000) (K + 80000000) (mstep tn E R ed x) := by
  obtain ⟨h1, h2, ⟨h3, h4⟩, h5⟩ := h
  have v0 : ∀ t, t < 8 → inv (x.1 + 1) (R t) B (x.2.2.2.2 t) := fun t ht => (h1 t ht).mono (by omega) (Nat.le_refl _)
  have v1 : ∀ t, t < 8 → inv (x.1 + 1) (R t) (B + 600000) (unl R (x.1 + 1) x.2.2.1 x.2.2.2.2 t) := fun t ht => (inv_unl x.2.2.1 B x.2.2.2.2 v0 (fun c hc => (h4 c hc).2.2) t ht).mono (Nat.le_refl _) (by omega)
  have v2 : ∀ t, t < 8 → inv (x.1 + 1) (R t) (B + 700000) (s2 R x.2.2.2.1 (x.1 + 1) (unl R (x.1 + 1) x.2.2.1 x.2.2.2.2) tn t) := inv_map v1 (by omega) (fun t ht q => (inv_hvs q).mono (Nat.le_refl _) (by have := h5 t; omega))
  have v3 : ∀ t, t < 8 → inv (x.1 + 1) (R t) (B + 700000 + 9999) ((mth3 tn E R x.2.2.2.1 ed (x.1 + 1) x.2.1 x.2.2.1 x.2.2.2.2).2 t) := fun t ht => inv_trdF he v2 tn t ht
  have v4 : ∀ t, t < 8 → inv (x.1 + 1) (R t) (B + 700000 + 9999) (s4 E (mth3 tn E R x.2.2.2.1 ed (x.1 + 1) x.2.1 x.2.2.1 x.2.2.2.2).2 tn t) := inv_map v3 (Nat.le_refl _) (fun t ht q => inv_eat q)
  have v5 : ∀ t, t < 8 → inv (x.1 + 1) (R t) (B + 700000 + 9999) (mthS tn E R x.2.2.2.1 ed (x.1 + 1) x.2.1 x.2.2.1 x.2.2.2.2 t) := inv_map v4 (Nat.le_refl _) (fun t ht q => inv_spo q hp)
  refine ⟨fun t ht => ?_, ?_, ⟨Nat.le_trans (List.length_filter_le _ _) h3, fun c hc => h4 c (List.mem_filter.mp hc).1⟩, fun _ => Nat.zero_le _⟩
  · show inv (x.1 + 1) (R t) (B + 800000) (mthT tn E R x.2.2.2.1 ed (x.1 + 1) x.2.1 x.2.2.1 x.2.2.2.2 t)
    unfold mthT
    by_cases q : 0 < ed 7 ∧ (x.1 + 1) % 12 = 0
    · rw [if_pos q]; exact (inv_map (n := tn) v5 (Nat.le_refl _) (fun t ht z => inv_trn z q.1) t ht).mono (Nat.le_refl _) (by omega)
    · rw [if_neg q]; exact (v5 t ht).mono (Nat.le_refl _) (by omega)
  · have h6 := trdF_co (E := E) (R := R) (mo := x.1 + 1) (x.2.1, s2 R x.2.2.2.1 (x.1 + 1) (unl R (x.1 + 1) x.2.2.1 x.2.2.2.2) tn) he tn
    refine Nat.le_trans h6 (Nat.le_trans (Nat.add_le_add h2 (Nat.mul_le_mul_left 10000000 htn)) (by omega))
theorem mits_mo (tn : Nat) (E R ed : Nat → Nat) (x : MS) : ∀ n, (mits tn E R ed n x).1 = x.1 + n
  | 0 => rfl
  | n + 1 => by show (mits tn E R ed n x).1 + 1 = _; rw [mits_mo tn E R ed x n]; omega
theorem msI_its {tn : Nat} {E R ed : Nat → Nat} {B K : Nat} {x : MS} (h : msI tn R B K x) (htn : tn ≤ 8) (he : ed 3 ≤ 9999) (hp : ed 6 ≤ 100) : ∀ n, msI tn R (B + 800000 * n) (K + 80000000 * n) (mits tn E R ed n x)
  | 0 => h
  | n + 1 => by
    have := msI_step (E := E) (msI_its (E := E) h htn he hp n) htn he hp
    rw [Nat.mul_succ, Nat.mul_succ, ← Nat.add_assoc, ← Nat.add_assoc]
    exact this
/-- TOWNS that there are not stay as they are -/
theorem unl_at {R : Nat → Nat} {mo tn : Nat} : ∀ (C : List Cr) (T : Nat → ST), (∀ c ∈ C, c.1 < tn) → ∀ t, tn ≤ t → unl R mo C T t = T t
  | [], T, _, t, _ => rfl
  | c :: r, T, h, t, ht => by
    have hr : ∀ c ∈ r, c.1 < tn := fun q hq => h q (List.mem_cons_of_mem _ hq)
    have h0 := h c List.mem_cons_self
    rw [unl]
    by_cases q : c.2.1 ≤ mo
    · rw [if_pos q, unl_at r _ hr t ht, upf_n _ _ (by omega)]
    · rw [if_neg q, unl_at r _ hr t ht]
theorem mstep_at {tn : Nat} {E R ed : Nat → Nat} {x : MS} (h : ∀ c ∈ x.2.2.1, c.1 < tn) : ∀ t, tn ≤ t → (mstep tn E R ed x).2.2.2.2 t = x.2.2.2.2 t := by
  intro t ht
  have e : (mth3 tn E R x.2.2.2.1 ed (x.1 + 1) x.2.1 x.2.2.1 x.2.2.2.2).2 t = x.2.2.2.2 t := by
    unfold mth3
    rw [trdF_at _ _ _ _ _ tn t ht]
    show s2 R _ _ _ tn t = _
    rw [s2, mapT_at ht, unl_at _ _ h t ht]
  have e2 : mthS tn E R x.2.2.2.1 ed (x.1 + 1) x.2.1 x.2.2.1 x.2.2.2.2 t = x.2.2.2.2 t := by
    unfold mthS
    rw [s5, mapT_at ht, s4, mapT_at ht, e]
  show mthT tn E R x.2.2.2.1 ed (x.1 + 1) x.2.1 x.2.2.1 x.2.2.2.2 t = _
  unfold mthT
  by_cases q : 0 < ed 7 ∧ (x.1 + 1) % 12 = 0
  · rw [if_pos q, s6, mapT_at ht, e2]
  · rw [if_neg q, e2]
