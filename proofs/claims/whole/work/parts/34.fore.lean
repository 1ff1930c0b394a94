/-! HUNGER FORETOLD: what it is, and that it rests on MONTHS and TRUE alone -/
def hgN (E : Nat → Nat) (T : Nat → ST) : Nat → Nat
  | 0 => 0
  | n + 1 => hgN E T n + (E n - min (E n) (T n).1.1)
def m3of (tn : Nat) (E R ed : Nat → Nat) (x : MS) : Nat × (Nat → ST) := mth3 tn E R x.2.2.2.1 ed (x.1 + 1) x.2.1 x.2.2.1 x.2.2.2.2
def foreN (tn : Nat) (E R ed : Nat → Nat) : Nat → MS → Nat
  | 0, _ => 0
  | n + 1, x => foreN tn E R ed n x + hgN E (m3of tn E R ed (mits tn E R ed n x)).2 tn
def hu (T : Nat → ST) (t : Nat) : Int64 := (T t).2.1.1
theorem hu_unl {R : Nat → Nat} {mo : Nat} : ∀ (C : List Cr) (T : Nat → ST) (t : Nat), hu (unl R mo C T) t = hu T t
  | [], T, t => rfl
  | c :: r, T, t => by
    rw [unl]
    by_cases q : c.2.1 ≤ mo
    · rw [if_pos q, hu_unl r]
      by_cases z : t = c.1
      · subst z; simp only [hu, upf_s]; rfl
      · simp only [hu, upf_n _ _ z]
    · rw [if_neg q, hu_unl r]
theorem hu_map {n : Nat} {f : Nat → ST → ST} {T : Nat → ST} (h : ∀ t s, (f t s).2.1.1 = s.2.1.1) (t : Nat) : hu (mapT n f T) t = hu T t := by
  by_cases q : t < n
  · simp only [hu, mapT, if_pos q]; exact h t _
  · simp only [hu, mapT, if_neg q]
theorem hu_hvs (r mo h : Nat) (s : ST) : (hvs r mo h s).2.1.1 = s.2.1.1 := by
  unfold hvs
  by_cases q : mo % 12 = 9
  · rw [if_pos q]; rfl
  · rw [if_neg q]; rfl
theorem hu_trd (e r : Nat) (ed : Nat → Nat) (mo co : Nat) (s : ST) : (trd e r ed mo co s).2.2.1.1 = s.2.1.1 := by
  unfold trd
  by_cases q : prc e s ≤ ed 0
  · rw [if_pos q]; rfl
  · rw [if_neg q]
    by_cases q2 : ed 2 ≤ prc e s
    · rw [if_pos q2]; rfl
    · rw [if_neg q2]
theorem hu_trdF (E R ed : Nat → Nat) (mo : Nat) (x : Nat × (Nat → ST)) (t : Nat) : ∀ k, hu (trdF E R ed mo k x).2 t = hu x.2 t
  | 0 => rfl
  | k + 1 => by
    rw [trdF]
    by_cases z : t = k
    · subst z
      show (upf _ t _ t).2.1.1 = _
      rw [upf_s, hu_trd]
      exact hu_trdF E R ed mo x t t
    · show (upf _ k _ t).2.1.1 = _
      rw [upf_n _ _ z]
      exact hu_trdF E R ed mo x t k
theorem hu_m3 (tn : Nat) (E R ed : Nat → Nat) (x : MS) (t : Nat) : hu (m3of tn E R ed x).2 t = hu x.2.2.2.2 t := by
  unfold m3of mth3
  rw [hu_trdF]
  show hu (s2 R _ _ _ tn) t = _
  rw [s2, hu_map (fun t s => hu_hvs _ _ _ _), hu_unl]
theorem hu_step (tn : Nat) (E R ed : Nat → Nat) (x : MS) (t : Nat) (ht : t < tn) : hu (mstep tn E R ed x).2.2.2.2 t = hu x.2.2.2.2 t + lN (E t - min (E t) ((m3of tn E R ed x).2 t).1.1) := by
  have e1 : hu (s4 E (m3of tn E R ed x).2 tn) t = hu x.2.2.2.2 t + lN (E t - min (E t) ((m3of tn E R ed x).2 t).1.1) := by
    rw [← hu_m3 tn E R ed x t]
    simp only [hu, s4, mapT, if_pos ht, eat]
  have e2 : hu (mthS tn E R x.2.2.2.1 ed (x.1 + 1) x.2.1 x.2.2.1 x.2.2.2.2) t = hu x.2.2.2.2 t + lN (E t - min (E t) ((m3of tn E R ed x).2 t).1.1) := by
    unfold mthS
    rw [s5, hu_map (fun t s => rfl)]
    exact e1
  show hu (mthT tn E R x.2.2.2.1 ed (x.1 + 1) x.2.1 x.2.2.1 x.2.2.2.2) t = _
  unfold mthT
  by_cases q : 0 < ed 7 ∧ (x.1 + 1) % 12 = 0
  · rw [if_pos q, s6, hu_map (fun t s => rfl)]; exact e2
  · rw [if_neg q]; exact e2
theorem hsum_add {T T' : Nat → ST} {f : Nat → Nat} : ∀ n, (∀ t, t < n → hu T' t = hu T t + lN (f t)) → (g : Nat → Nat) → (g 0 = 0) → (∀ t, t < n → g (t + 1) = g t + f t) → hsum n T' = hsum n T + lN (g n)
  | 0, _, g, h0, _ => by rw [h0]; rfl
  | n + 1, h, g, h0, hg => by
    have ih := hsum_add n (fun t ht => h t (by omega)) g h0 (fun t ht => hg t (by omega))
    have hn := h n (by omega)
    simp only [hu] at hn
    rw [hsum, hsum, ih, hn, hg n (by omega), ← lN_add]
    ac_rfl
theorem hsum_its (tn : Nat) (E R ed : Nat → Nat) (x : MS) : ∀ n, hsum tn (mits tn E R ed n x).2.2.2.2 = hsum tn x.2.2.2.2 + lN (foreN tn E R ed n x)
  | 0 => by show hsum tn x.2.2.2.2 = _; rw [foreN]; exact (Int64.add_zero _).symm
  | n + 1 => by
    have e := hsum_add (T := (mits tn E R ed n x).2.2.2.2) (T' := (mits tn E R ed (n + 1) x).2.2.2.2) (f := fun t => E t - min (E t) ((m3of tn E R ed (mits tn E R ed n x)).2 t).1.1) tn (fun t ht => hu_step tn E R ed _ t ht) (hgN E (m3of tn E R ed (mits tn E R ed n x)).2) rfl (fun t _ => rfl)
    rw [e, hsum_its tn E R ed x n, foreN, Int64.add_assoc, lN_add]
/-! the same by MONTHS and TRUE -/
def core (L : List Lt) : List (Nat × Nat) := L.map (fun l => (l.1, l.2.2.1))
def sim (s s' : ST) : Prop := s.1 = s'.1 ∧ core s.2.2 = core s'.2.2
theorem core_len {L L' : List Lt} (h : core L = core L') : L.length = L'.length := by
  have := congrArg List.length h; simpa [core] using this
theorem core_sum : ∀ {L L' : List Lt}, core L = core L' → tsum L = tsum L'
  | [], [], _ => rfl
  | [], _ :: _, h => by simp [core] at h
  | _ :: _, [], h => by simp [core] at h
  | a :: r, b :: q, h => by
    simp only [core, List.map_cons, List.cons.injEq, Prod.mk.injEq] at h
    have := core_sum (L := r) (L' := q) h.2
    simp only [tsum, this, h.1.2]
theorem core_app (a b : List Lt) : core (a ++ b) = core a ++ core b := by simp [core]
theorem core_tk : ∀ {L L' : List Lt} (n : Nat) (f f' : Int64), core L = core L' → core (tk n L f).1 = core (tk n L' f').1
  | [], [], n, f, f', _ => by simp [tk]
  | [], _ :: _, _, _, _, h => by simp [core] at h
  | _ :: _, [], _, _, _, h => by simp [core] at h
  | a :: r, b :: q, n, f, f', h => by
    have h' := h
    simp only [core, List.map_cons, List.cons.injEq, Prod.mk.injEq] at h
    rw [tk, tk]
    by_cases z : n = 0
    · rw [if_pos z, if_pos z]; exact h'
    · rw [if_neg z, if_neg z, h.1.2]
      by_cases z2 : n < b.2.2.1
      · rw [if_pos z2, if_pos z2]; simp only [core, List.map_cons, h.1.1, h.1.2]; rw [h.2]
      · rw [if_neg z2, if_neg z2]; exact core_tk _ _ _ h.2
theorem core_sp (now a p : Nat) : ∀ {L L' : List Lt} (f f' : Int64) (s s' : Nat), core L = core L' → core (sp now a p L f s).1 = core (sp now a p L' f' s').1
  | [], [], _, _, _, _, _ => by simp [sp]
  | [], _ :: _, _, _, _, _, h => by simp [core] at h
  | _ :: _, [], _, _, _, _, h => by simp [core] at h
  | x :: r, y :: q, f, f', s, s', h => by
    simp only [core, List.map_cons, List.cons.injEq, Prod.mk.injEq] at h
    rw [sp, sp, h.1.1, h.1.2]
    by_cases z : now < y.1 + a
    · rw [if_pos z, if_pos z]
      simp only [core, List.map_cons, h.1.1, h.1.2]
      exact congrArg _ (core_sp now a p _ _ _ _ h.2)
    · rw [if_neg z, if_neg z]
      by_cases z2 : y.2.2.1 - spl p y.2.2.1 = 0
      · rw [if_pos z2, if_pos z2]; exact core_sp now a p _ _ _ _ h.2
      · rw [if_neg z2, if_neg z2]
        simp only [core, List.map_cons, h.1.1, h.1.2]
        exact congrArg _ (core_sp now a p _ _ _ _ h.2)
theorem core_at {L L' : List Lt} (h : core L = core L') {i : Nat} {l : Lt} (hl : L[i]? = some l) : ∃ l', L'[i]? = some l' ∧ l'.1 = l.1 ∧ l'.2.2.1 = l.2.2.1 := by
  have h1 : (core L)[i]? = some (l.1, l.2.2.1) := by simp [core, hl]
  rw [h] at h1
  simp only [core, List.getElem?_map, Option.map_eq_some_iff] at h1
  obtain ⟨l', h2, h3⟩ := h1
  simp only [Prod.mk.injEq] at h3
  exact ⟨l', h2, h3.1, h3.2⟩
theorem core_dl (L : List Lt) : core L.dropLast = (core L).dropLast := by simp [core, List.map_dropLast]
theorem core_pt {L L' : List Lt} (n mo : Nat) (h : core L = core L') : core (pt n mo L) = core (pt n mo L') := by
  by_cases z : n = 0
  · subst z; rw [pt_0, pt_0]; exact h
  · have hlen := core_len h
    cases hl : L[L.length - 1]? with
    | none =>
      have e : L = [] := by
        cases L with
        | nil => rfl
        | cons a b => simp at hl
      subst e
      have e2 : L' = [] := by
        cases L' with
        | nil => rfl
        | cons a b => simp at hlen
      subst e2; rfl
    | some l =>
      obtain ⟨l', h1, h2, h3⟩ := core_at h hl
      rw [hlen] at h1
      by_cases hc : l.1 ≠ mo ∧ L.length < 40
      · rw [pt_new z hl hc.1 hc.2, pt_new z h1 (by rw [h2]; exact hc.1) (by omega), core_app, core_app, h]
      · have hc1 : l.1 = mo ∨ 40 ≤ L.length := by by_cases q : l.1 = mo; exact Or.inl q; exact Or.inr (by omega)
        rw [pt_mod z hl hc1, pt_mod z h1 (by rw [h2, ← hlen]; exact hc1), core_app, core_app, core_dl, core_dl, h]
        simp [core, h2, h3]
