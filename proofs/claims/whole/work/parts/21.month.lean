/-! A MONTH, as plain functions -/
def mapT (n : Nat) (f : Nat → ST → ST) (T : Nat → ST) : Nat → ST := fun t => if t < n then f t (T t) else T t
theorem mapT_0 (f : Nat → ST → ST) (T : Nat → ST) : mapT 0 f T = T := by funext t; simp [mapT]
theorem mapT_s (n : Nat) (f : Nat → ST → ST) (T : Nat → ST) : mapT (n + 1) f T = upf (mapT n f T) n (f n (mapT n f T n)) := by
  funext t
  by_cases h : t = n
  · subst h; simp [mapT, upf]
  · by_cases h2 : t < n
    · have : t < n + 1 := by omega
      simp [mapT, upf, h, h2, this]
    · have : ¬ t < n + 1 := by omega
      simp [mapT, upf, h, h2, this]
theorem mapT_at {n : Nat} {f : Nat → ST → ST} {T : Nat → ST} {t : Nat} (h : n ≤ t) : mapT n f T t = T t := by
  have : ¬ t < n := by omega
  simp [mapT, this]
theorem inv_map {mo : Nat} {R : Nat → Nat} {B B' n : Nat} {f : Nat → ST → ST} {T : Nat → ST} (h : ∀ t, t < 8 → inv mo (R t) B (T t)) (hB : B ≤ B') (hf : ∀ t, t < 8 → inv mo (R t) B (T t) → inv mo (R t) B' (f t (T t))) : ∀ t, t < 8 → inv mo (R t) B' (mapT n f T t) := by
  intro t ht
  by_cases q : t < n
  · simp only [mapT, if_pos q]; exact hf t ht (h t ht)
  · simp only [mapT, if_neg q]; exact (h t ht).mono (Nat.le_refl _) hB
theorem inv_unl {R : Nat → Nat} {mo : Nat} : ∀ (C : List Cr) (B : Nat) (T : Nat → ST), (∀ t, t < 8 → inv mo (R t) B (T t)) → (∀ c ∈ C, c.2.2 ≤ 10000) → ∀ t, t < 8 → inv mo (R t) (B + 10000 * C.length) (unl R mo C T t)
  | [], B, T, h, _ => fun t ht => by simpa [unl] using h t ht
  | c :: r, B, T, h, hc => by
    intro t ht
    have hr : ∀ c ∈ r, c.2.2 ≤ 10000 := fun q hq => hc q (List.mem_cons_of_mem _ hq)
    have hc0 := hc c List.mem_cons_self
    rw [unl]
    by_cases q : c.2.1 ≤ mo
    · rw [if_pos q]
      refine (inv_unl r (B + 10000) _ (fun t ht => ?_) hr t ht).mono (Nat.le_refl _) (by simp only [List.length_cons]; omega)
      by_cases z : t = c.1
      · subst z; rw [show upf T c.1 (rcv (R c.1) c.2.2 mo (T c.1)) c.1 = rcv (R c.1) c.2.2 mo (T c.1) by simp [upf]]
        exact (inv_rcv (n := c.2.2) (h c.1 ht)).mono (Nat.le_refl _) (by omega)
      · rw [show upf T c.1 (rcv (R c.1) c.2.2 mo (T c.1)) t = T t by simp [upf, z]]
        exact (h t ht).mono (Nat.le_refl _) (by omega)
    · rw [if_neg q]
      exact (inv_unl r B T h hr t ht).mono (Nat.le_refl _) (by simp only [List.length_cons]; omega)
def trdF (E R ed : Nat → Nat) (mo : Nat) : Nat → Nat × (Nat → ST) → Nat × (Nat → ST)
  | 0, x => x
  | k + 1, x => ((trd (E k) (R k) ed mo (trdF E R ed mo k x).1 ((trdF E R ed mo k x).2 k)).1, upf (trdF E R ed mo k x).2 k (trd (E k) (R k) ed mo (trdF E R ed mo k x).1 ((trdF E R ed mo k x).2 k)).2)
theorem trdF_at (E R ed : Nat → Nat) (mo : Nat) (x : Nat × (Nat → ST)) : ∀ (k t : Nat), k ≤ t → (trdF E R ed mo k x).2 t = x.2 t
  | 0, t, _ => rfl
  | k + 1, t, h => by
    have : t ≠ k := by omega
    rw [trdF]
    simp only [upf, if_neg this]
    exact trdF_at E R ed mo x k t (by omega)
theorem trdF_co {E R ed : Nat → Nat} {mo : Nat} (x : Nat × (Nat → ST)) (he : ed 3 ≤ 9999) : ∀ k, (trdF E R ed mo k x).1 ≤ x.1 + 10000000 * k
  | 0 => by simp [trdF]
  | k + 1 => by
    have := trdF_co (E := E) (R := R) (mo := mo) x he k
    have h2 := co_trd (mo := mo) (r := R k) (e := E k) (co := (trdF E R ed mo k x).1) (s := (trdF E R ed mo k x).2 k) he
    rw [trdF]
    exact Nat.le_trans h2 (by rw [Nat.mul_succ, ← Nat.add_assoc]; exact Nat.add_le_add_right this _)
theorem inv_trdF {E R ed : Nat → Nat} {mo B : Nat} {x : Nat × (Nat → ST)} (he : ed 3 ≤ 9999) (h : ∀ t, t < 8 → inv mo (R t) B (x.2 t)) : ∀ k t, t < 8 → inv mo (R t) (B + 9999) ((trdF E R ed mo k x).2 t)
  | 0, t, ht => (h t ht).mono (Nat.le_refl _) (by omega)
  | k + 1, t, ht => by
    rw [trdF]
    by_cases q : t = k
    · subst q
      show inv mo (R t) (B + 9999) (upf _ t _ t)
      rw [show ∀ (T : Nat → ST) (s : ST), upf T t s t = s by intro T s; simp [upf]]
      rw [trdF_at E R ed mo x t t (Nat.le_refl _)]
      exact inv_trd (h t ht) he
    · show inv mo (R t) (B + 9999) (upf _ k _ t)
      rw [show ∀ (T : Nat → ST) (s : ST), upf T k s t = T t by intro T s; simp [upf, q]]
      exact inv_trdF he h k t ht
def s2 (R Hv : Nat → Nat) (mo : Nat) (T : Nat → ST) (n : Nat) : Nat → ST := mapT n (fun t s => hvs (R t) mo (Hv t) s) T
def s4 (E : Nat → Nat) (T : Nat → ST) (n : Nat) : Nat → ST := mapT n (fun t s => eat (E t) s) T
def s5 (ed : Nat → Nat) (mo : Nat) (T : Nat → ST) (n : Nat) : Nat → ST := mapT n (fun _ s => spo mo (ed 5) (ed 6) s) T
def s6 (ed : Nat → Nat) (mo : Nat) (T : Nat → ST) (n : Nat) : Nat → ST := mapT n (fun _ s => trn (ed 7) mo s) T
/-- THE COIN and the TOWNS behind the trade of a MONTH mo (the number of the MONTH that comes) -/
def mth3 (tn : Nat) (E R Hv ed : Nat → Nat) (mo co : Nat) (C : List Cr) (T : Nat → ST) : Nat × (Nat → ST) := trdF E R ed mo tn (co, s2 R Hv mo (unl R mo C T) tn)
def mthS (tn : Nat) (E R Hv ed : Nat → Nat) (mo co : Nat) (C : List Cr) (T : Nat → ST) : Nat → ST := s5 ed mo (s4 E (mth3 tn E R Hv ed mo co C T).2 tn) tn
def mthT (tn : Nat) (E R Hv ed : Nat → Nat) (mo co : Nat) (C : List Cr) (T : Nat → ST) : Nat → ST := if 0 < ed 7 ∧ mo % 12 = 0 then s6 ed mo (mthS tn E R Hv ed mo co C T) tn else mthS tn E R Hv ed mo co C T
def cleft (mo : Nat) (C : List Cr) : List Cr := C.filter (fun c => decide (mo < c.2.1))
/-- the reference's group g in the midst of a MONTH -/
def pG (g k j : Nat) : Prop := (g = 0 ∧ k = 9) ∨ (k = 15 ∧ j = g) ∨ pC g k j
def pGJ (g k j : Nat) : Prop := (k = 16 ∧ j = g) ∨ pXg g k j
def stg (I : Nat → Nat → Int32) (J : Nat → Nat → Int64) (g mo : Nat) (C : List Cr) (I1 : Nat → Nat → Int32) (J1 : Nat → Nat → Int64) (co : Nat) (T : Nat → ST) : Prop := MRg I1 J1 g T ∧ J1 16 g = lN co ∧ I1 15 g = nI mo ∧ crR I1 g C ∧ fr (pG g) I I1 ∧ fr (pGJ g) J J1
theorem stg_up {I : Nat → Nat → Int32} {J : Nat → Nat → Int64} {g mo t co co' : Nat} {C : List Cr} {I1 I2 : Nat → Nat → Int32} {J1 J2 : Nat → Nat → Int64} {T : Nat → ST} {s' : ST} (h : stg I J g mo C I1 J1 co T) (ht : t < 8) (hC : C.length ≤ 60) (hl : ∀ t, t < 8 → (T t).2.2.length ≤ 40) (hI : fr (fun k j => pS (8 * g + t) k j ∨ (g = 0 ∧ k = 9 ∧ j = t)) I1 I2) (hJ : fr (fun k j => pX (8 * g + t) k j ∨ (k = 16 ∧ j = g)) J1 J2) (hs : slotR I2 J2 (8 * g + t) s') (hco : J2 16 g = lN co') : stg I J g mo C I2 J2 co' (upf T t s') := by
  obtain ⟨a, b, c, d, e, f⟩ := h
  refine ⟨MRg_up a hl hI hJ hs (fun k j z => ?_) (fun k j z => ?_), hco, (hI 15 g (by simp [pS])).trans c, crR_fr hI d hC (by simp [pS]) (fun k j h1 h2 _ _ z => ?_), e.tr (hI.mono (fun k j z => ?_)), f.tr (hJ.mono (fun k j z => ?_))⟩
  · rcases z with z | z
    · exact Or.inl z
    · exact Or.inr (by omega)
  · rcases z with z | z
    · exact Or.inl z
    · exact Or.inr (by omega)
  · simp only [pS] at z; omega
  · simp only [pS, pG, pC] at *; omega
  · simp only [pX, pGJ, pXg] at *; omega
theorem fr.l {α : Type} {P P' : Nat → Nat → Prop} {I I' : Nat → Nat → α} (h : fr P I I') : fr (fun k j => P k j ∨ P' k j) I I' := h.mono (fun _ _ z => Or.inl z)
