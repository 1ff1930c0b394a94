theorem narB {P : Prop} [Decidable P] : narrow .boolean (.int (if P then 1 else 0)) = .int (if P then 1 else 0) := by by_cases h : P <;> simp [h] <;> rfl
def hsum : Nat → (Nat → ST) → Int64
  | 0, _ => 0
  | n + 1, T => hsum n T + (T n).2.1.1
def csum : List Cr → Nat
  | [] => 0
  | c :: r => c.2.2 + csum r
theorem csum_app (a b : List Cr) : csum (a ++ b) = csum a + csum b := by
  induction a with
  | nil => simp [csum]
  | cons x r ih => simp only [List.cons_append, csum, ih]; omega
theorem csum_take {L : List Cr} {i : Nat} {l : Cr} (h : L[i]? = some l) : csum (L.take (i + 1)) = csum (L.take i) + l.2.2 := by
  rw [take_one h, csum_app]; simp [csum]
/-- answers that change nothing -/
def lookV (e r : Nat) (s : ST) (w : Int32) : Int64 :=
  if w = 0 then lN e else if w = 1 then lN s.1.1 else if w = 2 then lN r else if w = 3 then lN (prc e s) else if w = 4 then lN s.2.2.length else if w = 5 then lN (tsum s.2.2) else if w = 6 then bsum true s.2.2 else if w = 7 then s.2.1.1 else if w = 8 then s.2.1.2.1 else if w = 9 then lN s.1.2 else if w = 10 then s.2.1.2.2.1 else if w = 11 then s.2.1.2.2.2.1 else if w = 12 then s.2.1.2.2.2.2.1 else -1
def lookR (tn : Nat) (E R : Nat → Nat) (T : Nat → ST) (t w : Int32) : Int64 := if isT tn t then lookV (E (kN t)) (R (kN t)) (T (kN t)) w else -1
def missV (s : ST) (w : Int32) : Int64 := if w = 0 then s.2.1.2.2.2.2.2 else if w = 1 then s.2.1.2.2.2.2.2 + bsum false s.2.2 else -1
def missR (tn : Nat) (T : Nat → ST) (t w : Int32) : Int64 := if isT tn t then missV (T (kN t)) w else -1
def lotV (l : Lt) (w : Int32) : Int32 := if w = 0 then nI l.1 else if w = 1 then l.2.1 else if w = 2 then bI l.2.2.2 else -1
def lotR (tn : Nat) (T : Nat → ST) (t i w : Int32) : Int32 := if isT tn t ∧ isT (T (kN t)).2.2.length i then lotV ((T (kN t)).2.2.getD (kN i) (0, 0, 0, false)) w else -1
def countR (tp : List Nat) (tn rn mo co : Nat) (C : List Cr) (T : Nat → ST) (rd : Nat → Rd) (w : Int32) : Int64 :=
  if 10 ≤ w.toInt ∧ w.toInt < (10 + rn : Int) then lN (rd (kN w - 10)).2.2.2.2 else
  if w = 0 then lN mo else if w = 1 then lN tn else if w = 2 then lN rn else if w = 3 then lN co else if w = 4 then lN (csum C) else if w = 5 then lN tp.length else if w = 6 then hsum tn T else -1
theorem liesC (w : Int32) {n : Nat} (h : n ≤ 12) : (if lN 0 ≤ (w - nI 10).toInt64 ∧ (w - nI 10).toInt64 ≤ (nI n - nI 1).toInt64 then (1 : Int32) else 0) = if 10 ≤ w.toInt ∧ w.toInt < (10 + n : Int) then 1 else 0 := by
  rw [liesT (w - nI 10) (by omega)]
  have hb := w.toInt_lt
  have hb2 := w.le_toInt
  have e : (0 ≤ (w - nI 10).toInt ∧ (w - nI 10).toInt < (n : Int)) ↔ (10 ≤ w.toInt ∧ w.toInt < (10 + n : Int)) := by
    rw [Int32.toInt_sub, nI_toInt (by omega)]
    rw [Int.bmod_def]
    simp only [show (((2 : Nat) ^ 32 : Nat) : Int) = 4294967296 from rfl]
    split <;> omega
  simp only [e]
theorem hv_up {I : Nat → Nat → Int32} {Hv : Nat → Nat} {tn k m : Nat} {n : Int32} (h : ∀ t, t < tn → (I 9 t = nI (Hv t) ∨ (Hv t = 0 ∧ I 9 t = -1))) (hn : n = nI m) : ∀ t, t < tn → (up2 I 9 k n 9 t = nI (upf Hv k m t) ∨ (upf Hv k m t = 0 ∧ up2 I 9 k n 9 t = -1)) := by
  intro t ht
  by_cases z : t = k
  · subst z
    rw [up2_s, show upf Hv t m t = m by simp [upf]]
    exact Or.inl hn
  · rw [up2_j _ _ z, show upf Hv k m t = Hv t by simp [upf, z]]
    exact h t ht
theorem upf_s {α : Type} (f : Nat → α) (k : Nat) (x : α) : upf f k x k = x := by simp [upf]
theorem upf_n {α : Type} (f : Nat → α) {k j : Nat} (x : α) (h : j ≠ k) : upf f k x j = f j := by simp [upf, h]
/-- rows of numbers, one of them new -/
theorem row_up {I : Nat → Nat → Int32} {f : Nat → Nat} {F k m N : Nat} {n : Int32} (h : ∀ t, t < N → I F t = nI (f t)) (hn : n = nI m) : ∀ t, t < N → up2 I F k n F t = nI (upf f k m t) := by
  intro t ht
  by_cases z : t = k
  · subst z; rw [up2_s, upf_s]; exact hn
  · rw [up2_j _ _ z, upf_n _ _ z]; exact h t ht
theorem town_new {sc : Int32 × Int32 × Int32} {I : Nat → Nat → Int32} {J : Nat → Nat → Int64} {B : Nat} {tp : List Nat} {nx : Nat → Nat} {tn rn : Nat} {E R Hv : Nat → Nat} {mo co : Nat} {C : List Cr} {T : Nat → ST} {rd : Nat → Rd} {e m r : Int32} {ke km kr : Nat} (hm : mrep sc I J tp nx tn rn E R Hv mo co C T rd) (hv : sinv B tp nx tn rn E R Hv mo co C T rd) (hlt : tn < 8) (he : e = nI ke) (hmm : m = nI km) (hkm : km ≤ 100000) (hr : r = nI kr) :
    mrep (sc.1, nI (tn + 1), sc.2.2) (up2 (up2 (up2 I 7 tn e) 8 tn r) 9 tn (-1)) (up2 J 21 tn m.toInt64) tp nx (tn + 1) rn (upf E tn ke) (upf R tn kr) (upf Hv tn 0) mo co C (upf T tn ((km, 0), (0, 0, 0, 0, 0, 0), [])) rd := by
  obtain ⟨m0, m1, m2, m3, m4, m5, m6, m7, m8, m9, m10, m11, m12, m13⟩ := hm
  obtain ⟨-, -, -, -, -, ⟨v12, -⟩, ⟨v14, v15⟩, -⟩ := hv
  have e0 : 8 * 0 + tn = tn := by omega
  have hs := m11 tn hlt
  rw [v15 tn (Nat.le_refl _), e0] at hs
  have hI : fr (fun k j => 7 ≤ k ∧ k ≤ 9) I (up2 (up2 (up2 I 7 tn e) 8 tn r) 9 tn (-1)) := ((fr.up ⟨by omega, by omega⟩).tr (fr.up ⟨by omega, by omega⟩)).tr (fr.up ⟨by omega, by omega⟩)
  have hJ : fr (pX tn) J (up2 J 21 tn m.toInt64) := fr.up ⟨by omega, by omega, rfl⟩
  have hsl : slotR (up2 (up2 (up2 I 7 tn e) 8 tn r) 9 tn (-1)) (up2 J 21 tn m.toInt64) tn ((km, 0), (0, 0, 0, 0, 0, 0), []) := by
    obtain ⟨a, b, c, d, f, g, i, j, q⟩ := hs
    exact ⟨by rw [up2_s, hmm]; exact nI_l (by omega), b, c, d, f, g, i, j, rowR_fr hI q (by omega) (by intros; omega)⟩
  refine ⟨m0, m1, m2, rfl, m4, row_up (I := I) (F := 7) (k := tn) (m := ke) m5 he, row_up (I := up2 I 7 tn e) (F := 8) (k := tn) (m := kr) m6 hr, ?_, m8, m9, crR_fr hI m10 v12 (by omega) (by intros; omega), ?_, m12, ?_⟩
  · intro t ht
    by_cases z : t = tn
    · subst z; exact Or.inr ⟨upf_s _ _ _, up2_s _ _ _ _⟩
    · rw [up2_j _ _ z, upf_n _ _ z]; exact m7 t (by omega)
  · refine MRg_up m11 (fun t ht => (v14 t ht).1) hI hJ (by rw [e0]; exact hsl) (fun k j z => Or.inr (by omega)) (fun k j z => Or.inl (by rw [e0]; exact z))
  · intro t h1 h2
    exact slotR_fr hI hJ (m13 t (by omega) h2) (by simp [st0]) (by omega) (by intros; omega) (fun k _ _ z => by have := z.2.2; omega)
theorem road_new {sc : Int32 × Int32 × Int32} {I : Nat → Nat → Int32} {J : Nat → Nat → Int64} {B : Nat} {tp : List Nat} {nx : Nat → Nat} {tn rn : Nat} {E R Hv : Nat → Nat} {mo co : Nat} {C : List Cr} {T : Nat → ST} {rd : Nat → Rd} {a b w k : Int32} {ka kb kw kk : Nat} (hm : mrep sc I J tp nx tn rn E R Hv mo co C T rd) (hv : sinv B tp nx tn rn E R Hv mo co C T rd) (hlt : rn < 12) (ha : a = nI ka) (hb : b = nI kb) (hw : w = nI kw) (hk : k = nI kk) :
    mrep (sc.1, sc.2.1, nI (rn + 1)) (up2 (up2 (up2 (up2 I 10 rn a) 11 rn b) 12 rn w) 13 rn k) J tp nx tn (rn + 1) E R Hv mo co C T (upf rd rn (ka, kb, kw, kk, 0)) := by
  obtain ⟨m0, m1, m2, m3, m4, m5, m6, m7, m8, m9, m10, m11, m12, m13⟩ := hm
  obtain ⟨-, -, -, -, -, ⟨v12, -⟩, ⟨v14, -⟩, -, v17⟩ := hv
  have hI : fr (fun k j => 10 ≤ k ∧ k ≤ 13) I (up2 (up2 (up2 (up2 I 10 rn a) 11 rn b) 12 rn w) 13 rn k) := (((fr.up ⟨by omega, by omega⟩).tr (fr.up ⟨by omega, by omega⟩)).tr (fr.up ⟨by omega, by omega⟩)).tr (fr.up ⟨by omega, by omega⟩)
  refine ⟨m0, m1, m2, m3, rfl, m5, m6, m7, m8, m9, crR_fr hI m10 v12 (by omega) (by intros; omega), MRg_keep (P' := fun _ _ => False) m11 (fun t ht => (v14 t ht).1) hI fr.rf (fun k j z => by omega) (fun k j z => z.elim), ?_, fun t h1 h2 => slotR_fr (P' := fun _ _ => False) hI fr.rf (m13 t h1 h2) (by simp [st0]) (by omega) (by intros; omega) (fun _ _ _ z => z)⟩
  intro r hr
  have h := m12 r hr
  by_cases z : r = rn
  · subst z
    rw [v17 r (Nat.le_refl _)] at h
    rw [upf_s]
    refine ⟨?_, ?_, ?_, ?_, h.2.2.2.2⟩
    · rw [up2_k _ _ (by decide), up2_k _ _ (by decide), up2_k _ _ (by decide), up2_s]; exact ha
    · rw [up2_k _ _ (by decide), up2_k _ _ (by decide), up2_s]; exact hb
    · rw [up2_k _ _ (by decide), up2_s]; exact hw
    · rw [up2_s]; exact hk
  · rw [upf_n _ _ z]
    refine ⟨?_, ?_, ?_, ?_, h.2.2.2.2⟩
    · rw [up2_n _ _ (by omega), up2_n _ _ (by omega), up2_n _ _ (by omega), up2_n _ _ (by omega)]; exact h.1
    · rw [up2_n _ _ (by omega), up2_n _ _ (by omega), up2_n _ _ (by omega), up2_n _ _ (by omega)]; exact h.2.1
    · rw [up2_n _ _ (by omega), up2_n _ _ (by omega), up2_n _ _ (by omega), up2_n _ _ (by omega)]; exact h.2.2.1
    · rw [up2_n _ _ (by omega), up2_n _ _ (by omega), up2_n _ _ (by omega), up2_n _ _ (by omega)]; exact h.2.2.2.1
theorem sw_out {w : Int32} {n : Nat} (h : ∀ k, k ≤ n → ¬ w = nI k) : w.toInt < 0 ∨ (n : Int) < w.toInt := by
  by_cases h0 : w.toInt < 0
  · exact Or.inl h0
  · by_cases h1 : (n : Int) < w.toInt
    · exact Or.inr h1
    · exact absurd (ti_nI (by omega)) (h (kN w) (by simp only [kN]; omega))
