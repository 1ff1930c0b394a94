/-! HUNGER FORETOLD: what it is, and that it rests on MONTHS and TRUE alone -/
def hgN (E : Nat → Nat) (T : Nat → ST) : Nat → Nat
  | 0 => 0
  | n + 1 => hgN E T n + (E n - min (E n) (T n).1.1)
def m3of (tn : Nat) (E R ed : Nat → Nat) (x : MS) : Nat × (Nat → ST) := mth3 tn E R x.2.2.2.1 ed (x.1 + 1) x.2.1 x.2.2.1 x.2.2.2.2
def foreN (tn : Nat) (E R ed : Nat → Nat) : Nat → MS → Nat
  | 0, _ => 0
  | n + 1, x => foreN tn E R ed n x + hgN E (m3of tn E R ed (mits tn E R ed n x)).2 tn
def hu (T : Nat → ST) (t : Nat) : Int64 := (T t).2.1.1
theorem hu_unl {R : Nat → Nat} {mo : Nat} : ∀ (C : List Cr) (T : Nat → ST) (t : Nat), hu (unl R mo C T) t = hu T t
  | [], T, t => rfl
  | c :: r, T, t => by
    rw [unl]
    by_cases q : c.2.1 ≤ mo
    · rw [if_pos q, hu_unl r]
      by_cases z : t = c.1
      · subst z; simp only [hu, upf_s]; rfl
      · simp only [hu, upf_n _ _ z]
    · rw [if_neg q, hu_unl r]
theorem hu_map {n : Nat} {f : Nat → ST → ST} {T : Nat → ST} (h : ∀ t s, (f t s).2.1.1 = s.2.1.1) (t : Nat) : hu (mapT n f T) t = hu T t := by
  by_cases q : t < n
  · simp only [hu, mapT, if_pos q]; exact h t _
  · simp only [hu, mapT, if_neg q]
theorem hu_hvs (r mo h : Nat) (s : ST) : (hvs r mo h s).2.1.1 = s.2.1.1 := by
  unfold hvs
  by_cases q : mo % 12 = 9
  · rw [if_pos q]; rfl
  · rw [if_neg q]; rfl
theorem hu_trd (e r : Nat) (ed : Nat → Nat) (mo co : Nat) (s : ST) : (trd e r ed mo co s).2.2.1.1 = s.2.1.1 := by
  unfold trd
  by_cases q : prc e s ≤ ed 0
  · rw [if_pos q]; rfl
  · rw [if_neg q]
    by_cases q2 : ed 2 ≤ prc e s
    · rw [if_pos q2]; rfl
    · rw [if_neg q2]
theorem hu_trdF (E R ed : Nat → Nat) (mo : Nat) (x : Nat × (Nat → ST)) (t : Nat) : ∀ k, hu (trdF E R ed mo k x).2 t = hu x.2 t
  | 0 => rfl
  | k + 1 => by
    rw [trdF]
    by_cases z : t = k
    · subst z
      simp only [hu, upf_s]
      rw [hu_trd]
      exact hu_trdF E R ed mo x t t
    · simp only [hu, upf_n _ _ z]
      exact hu_trdF E R ed mo x t k
theorem hu_m3 (tn : Nat) (E R ed : Nat → Nat) (x : MS) (t : Nat) : hu (m3of tn E R ed x).2 t = hu x.2.2.2.2 t := by
  unfold m3of mth3
  rw [hu_trdF]
  show hu (s2 R _ _ _ tn) t = _
  rw [s2, hu_map (fun t s => hu_hvs _ _ _ _), hu_unl]
theorem hu_step (tn : Nat) (E R ed : Nat → Nat) (x : MS) (t : Nat) (ht : t < tn) : hu (mstep tn E R ed x).2.2.2.2 t = hu x.2.2.2.2 t + lN (E t - min (E t) ((m3of tn E R ed x).2 t).1.1) := by
  have e1 : hu (s4 E (m3of tn E R ed x).2 tn) t = hu x.2.2.2.2 t + lN (E t - min (E t) ((m3of tn E R ed x).2 t).1.1) := by
    rw [← hu_m3 tn E R ed x t]
    simp only [hu, s4, mapT, if_pos ht, eat]
  have e2 : hu (mthS tn E R x.2.2.2.1 ed (x.1 + 1) x.2.1 x.2.2.1 x.2.2.2.2) t = hu x.2.2.2.2 t + lN (E t - min (E t) ((m3of tn E R ed x).2 t).1.1) := by
    unfold mthS
    rw [s5, hu_map (f := fun _ s => spo (x.1 + 1) (ed 5) (ed 6) s) (fun t s => rfl)]
    exact e1
  show hu (mthT tn E R x.2.2.2.1 ed (x.1 + 1) x.2.1 x.2.2.1 x.2.2.2.2) t = _
  unfold mthT
  by_cases q : 0 < ed 7 ∧ (x.1 + 1) % 12 = 0
  · rw [if_pos q, s6, hu_map (f := fun _ s => trn (ed 7) (x.1 + 1) s) (fun t s => rfl)]; exact e2
  · rw [if_neg q]; exact e2
theorem hsum_add {T T' : Nat → ST} {f : Nat → Nat} : ∀ n, (∀ t, t < n → hu T' t = hu T t + lN (f t)) → (g : Nat → Nat) → (g 0 = 0) → (∀ t, t < n → g (t + 1) = g t + f t) → hsum n T' = hsum n T + lN (g n)
  | 0, _, g, h0, _ => by rw [h0]; rfl
  | n + 1, h, g, h0, hg => by
    have ih := hsum_add n (fun t ht => h t (by omega)) g h0 (fun t ht => hg t (by omega))
    have hn := h n (by omega)
    simp only [hu] at hn
    rw [hsum, hsum, ih, hn, hg n (by omega), ← lN_add]
    ac_rfl
theorem hsum_its (tn : Nat) (E R ed : Nat → Nat) (x : MS) : ∀ n, hsum tn (mits tn E R ed n x).2.2.2.2 = hsum tn x.2.2.2.2 + lN (foreN tn E R ed n x)
  | 0 => by show hsum tn x.2.2.2.2 = _; rw [foreN]; exact (Int64.add_zero _).symm
  | n + 1 => by
    have e := hsum_add (T := (mits tn E R ed n x).2.2.2.2) (T' := (mits tn E R ed (n + 1) x).2.2.2.2) (f := fun t => E t - min (E t) ((m3of tn E R ed (mits tn E R ed n x)).2 t).1.1) tn (fun t ht => hu_step tn E R ed _ t ht) (hgN E (m3of tn E R ed (mits tn E R ed n x)).2) rfl (fun t _ => rfl)
    rw [e, hsum_its tn E R ed x n, foreN, Int64.add_assoc, lN_add]
/-! the same by MONTHS and TRUE -/
def core (L : List Lt) : List (Nat × Nat) := L.map (fun l => (l.1, l.2.2.1))
def sim (s s' : ST) : Prop := s.1 = s'.1 ∧ core s.2.2 = core s'.2.2
theorem core_len {L L' : List Lt} (h : core L = core L') : L.length = L'.length := by
  have := congrArg List.length h; simpa [core] using this
theorem core_sum : ∀ {L L' : List Lt}, core L = core L' → tsum L = tsum L'
  | [], [], _ => rfl
  | [], _ :: _, h => by simp [core] at h
  | _ :: _, [], h => by simp [core] at h
  | a :: r, b :: q, h => by
    simp only [core, List.map_cons, List.cons.injEq, Prod.mk.injEq] at h
    have := core_sum (L := r) (L' := q) h.2
    simp only [tsum, this, h.1.2]
theorem core_app (a b : List Lt) : core (a ++ b) = core a ++ core b := by simp [core]
theorem core_tk : ∀ {L L' : List Lt} (n : Nat) (f f' : Int64), core L = core L' → core (tk n L f).1 = core (tk n L' f').1
  | [], [], n, f, f', _ => by simp [tk]
  | [], _ :: _, _, _, _, h => by simp [core] at h
  | _ :: _, [], _, _, _, h => by simp [core] at h
  | a :: r, b :: q, n, f, f', h => by
    have h' := h
    simp only [core, List.map_cons, List.cons.injEq, Prod.mk.injEq] at h
    rw [tk, tk]
    by_cases z : n = 0
    · rw [if_pos z, if_pos z]; exact h'
    · rw [if_neg z, if_neg z, h.1.2]
      by_cases z2 : n < b.2.2.1
      · rw [if_pos z2, if_pos z2]; simp only [core, List.map_cons, h.1.1, h.1.2]; rw [h.2]
      · rw [if_neg z2, if_neg z2]; exact core_tk _ _ _ h.2
theorem core_sp (now a p : Nat) : ∀ {L L' : List Lt} (f f' : Int64) (s s' : Nat), core L = core L' → core (sp now a p L f s).1 = core (sp now a p L' f' s').1
  | [], [], _, _, _, _, _ => by simp [sp]
  | [], _ :: _, _, _, _, _, h => by simp [core] at h
  | _ :: _, [], _, _, _, _, h => by simp [core] at h
  | x :: r, y :: q, f, f', s, s', h => by
    simp only [core, List.map_cons, List.cons.injEq, Prod.mk.injEq] at h
    rw [sp, sp, h.1.1, h.1.2]
    by_cases z : now < y.1 + a
    · rw [if_pos z, if_pos z]
      simp only [core, List.map_cons, h.1.1, h.1.2]
      exact congrArg _ (core_sp now a p _ _ _ _ h.2)
    · rw [if_neg z, if_neg z]
      by_cases z2 : y.2.2.1 - spl p y.2.2.1 = 0
      · rw [if_pos z2, if_pos z2]; exact core_sp now a p _ _ _ _ h.2
      · rw [if_neg z2, if_neg z2]
        simp only [core, List.map_cons, h.1.1, h.1.2]
        exact congrArg _ (core_sp now a p _ _ _ _ h.2)
theorem core_at {L L' : List Lt} (h : core L = core L') {i : Nat} {l : Lt} (hl : L[i]? = some l) : ∃ l', L'[i]? = some l' ∧ l'.1 = l.1 ∧ l'.2.2.1 = l.2.2.1 := by
  have h1 : (core L)[i]? = some (l.1, l.2.2.1) := by simp [core, hl]
  rw [h] at h1
  simp only [core, List.getElem?_map, Option.map_eq_some_iff] at h1
  obtain ⟨l', h2, h3⟩ := h1
  simp only [Prod.mk.injEq] at h3
  exact ⟨l', h2, h3.1, h3.2⟩
theorem core_dl (L : List Lt) : core L.dropLast = (core L).dropLast := by simp [core, List.map_dropLast]
theorem core_pt {L L' : List Lt} (n mo : Nat) (h : core L = core L') : core (pt n mo L) = core (pt n mo L') := by
  by_cases z : n = 0
  · subst z; rw [pt_0, pt_0]; exact h
  · have hlen := core_len h
    cases hl : L[L.length - 1]? with
    | none =>
      have e : L = [] := by
        cases L with
        | nil => rfl
        | cons a b => simp at hl
      subst e
      have e2 : L' = [] := by
        cases L' with
        | nil => rfl
        | cons a b => simp at hlen
      subst e2; rfl
    | some l =>
      obtain ⟨l', h1, h2, h3⟩ := core_at h hl
      rw [hlen] at h1
      by_cases hc : l.1 ≠ mo ∧ L.length < 40
      · rw [pt_new z hl hc.1 hc.2, pt_new z h1 (by rw [h2]; exact hc.1) (by omega), core_app, core_app, h]
      · have hc1 : l.1 = mo ∨ 40 ≤ L.length := by by_cases q : l.1 = mo; exact Or.inl q; exact Or.inr (by omega)
        rw [pt_mod z hl hc1, pt_mod z h1 (by rw [h2, ← hlen]; exact hc1), core_app, core_app, core_dl, core_dl, h]
        simp [core, h2, h3]
/-- TOWNS alike by MONTHS and TRUE, MARKET and OWES -/
def simT (tn : Nat) (T T' : Nat → ST) : Prop := ∀ t, t < tn → sim (T t) (T' t)
theorem sim_rcv {s s' : ST} (R n mo : Nat) (h : sim s s') : sim (rcv R n mo s) (rcv R n mo s') := by
  obtain ⟨a, b⟩ := h
  have hs := core_sum b
  refine ⟨?_, ?_⟩
  · simp only [rcv, hs, a]
  · simp only [rcv, hs]; exact core_pt _ _ b
theorem sim_hvs {s s' : ST} (R mo k : Nat) (h : sim s s') : sim (hvs R mo k s) (hvs R mo k s') := by
  obtain ⟨a, b⟩ := h
  have hs := core_sum b
  unfold hvs
  by_cases q : mo % 12 = 9
  · rw [if_pos q, if_pos q]
    have e : payN R (rea k s) = payN R (rea k s') := by simp only [payN, rea, a, hs]
    refine ⟨?_, ?_⟩
    · simp only [pay, e]; simp only [rea, a]
    · simp only [pay, e]; exact core_pt _ _ b
  · rw [if_neg q, if_neg q]
    exact ⟨by simp only [rea, a], b⟩
theorem sim_trd {s s' : ST} (e r : Nat) (ed : Nat → Nat) (mo co : Nat) (h : sim s s') : (trd e r ed mo co s).1 = (trd e r ed mo co s').1 ∧ sim (trd e r ed mo co s).2 (trd e r ed mo co s').2 := by
  obtain ⟨a, b⟩ := h
  have hs := core_sum b
  have hp : prc e s = prc e s' := by simp only [prc, a]
  have hb : buyN e r ed co s = buyN e r ed co s' := by simp only [buyN, buy0, hp, hs, a]
  have hl : selN ed s = selN ed s' := by simp only [selN, hs]
  unfold trd
  rw [hp, hb, hl]
  by_cases q : prc e s' ≤ ed 0
  · rw [if_pos q, if_pos q]
    exact ⟨rfl, by simp only [buyS, a], core_pt _ _ b⟩
  · rw [if_neg q, if_neg q]
    by_cases q2 : ed 2 ≤ prc e s'
    · rw [if_pos q2, if_pos q2]
      exact ⟨rfl, by simp only [selS, a], core_tk _ _ _ b⟩
    · rw [if_neg q2, if_neg q2]; exact ⟨rfl, a, b⟩
theorem sim_eat {s s' : ST} (e : Nat) (h : sim s s') : sim (eat e s) (eat e s') := ⟨by simp only [eat, h.1], h.2⟩
theorem sim_spo {s s' : ST} (mo a p : Nat) (h : sim s s') : sim (spo mo a p s) (spo mo a p s') := ⟨h.1, core_sp _ _ _ _ _ _ _ h.2⟩
theorem sim_trn {s s' : ST} (o mo : Nat) (h : sim s s') : sim (trn o mo s) (trn o mo s') := by
  have e : trnN o s = trnN o s' := by simp only [trnN, core_sum h.2, h.1]
  refine ⟨h.1, ?_⟩
  simp only [trn, e]
  exact core_pt _ _ (core_tk _ _ _ h.2)
theorem sim_map {tn n : Nat} {f : Nat → ST → ST} {T T' : Nat → ST} (hf : ∀ t s s', sim s s' → sim (f t s) (f t s')) (h : simT tn T T') : simT tn (mapT n f T) (mapT n f T') := by
  intro t ht
  by_cases q : t < n
  · simp only [mapT, if_pos q]; exact hf t _ _ (h t ht)
  · simp only [mapT, if_neg q]; exact h t ht
theorem sim_unl {tn : Nat} {R : Nat → Nat} {mo : Nat} : ∀ (C : List Cr) {T T' : Nat → ST}, (∀ c ∈ C, c.1 < tn) → simT tn T T' → simT tn (unl R mo C T) (unl R mo C T')
  | [], T, T', _, h => h
  | c :: r, T, T', hc, h => by
    have hr : ∀ c ∈ r, c.1 < tn := fun q hq => hc q (List.mem_cons_of_mem _ hq)
    rw [unl, unl]
    by_cases q : c.2.1 ≤ mo
    · rw [if_pos q, if_pos q]
      refine sim_unl r hr (fun t ht => ?_)
      by_cases z : t = c.1
      · subst z; rw [upf_s, upf_s]; exact sim_rcv _ _ _ (h _ ht)
      · rw [upf_n _ _ z, upf_n _ _ z]; exact h t ht
    · rw [if_neg q, if_neg q]; exact sim_unl r hr h
theorem sim_trdF {tn : Nat} {E R ed : Nat → Nat} {mo co : Nat} {T T' : Nat → ST} (h : simT tn T T') : ∀ k, k ≤ tn → (trdF E R ed mo k (co, T)).1 = (trdF E R ed mo k (co, T')).1 ∧ simT tn (trdF E R ed mo k (co, T)).2 (trdF E R ed mo k (co, T')).2
  | 0, _ => ⟨rfl, h⟩
  | k + 1, hk => by
    obtain ⟨i1, i2⟩ := sim_trdF h k (by omega)
    have i3 := sim_trd (E k) (R k) ed mo (trdF E R ed mo k (co, T)).1 (i2 k (by omega))
    rw [trdF, trdF]
    rw [i1] at i3 ⊢
    refine ⟨i3.1, fun t ht => ?_⟩
    by_cases z : t = k
    · subst z; simp only [upf_s]; exact i3.2
    · simp only [upf_n _ _ z]; exact i2 t ht
/-- alike states -/
def simX (tn : Nat) (x y : MS) : Prop := x.1 = y.1 ∧ x.2.1 = y.2.1 ∧ x.2.2.1 = y.2.2.1 ∧ x.2.2.2.1 = y.2.2.2.1 ∧ simT tn x.2.2.2.2 y.2.2.2.2 ∧ ∀ c ∈ x.2.2.1, c.1 < tn
theorem sim_m3 {tn : Nat} {E R ed : Nat → Nat} {x y : MS} (h : simX tn x y) : (m3of tn E R ed x).1 = (m3of tn E R ed y).1 ∧ simT tn (m3of tn E R ed x).2 (m3of tn E R ed y).2 := by
  obtain ⟨a, b, c, d, e, f⟩ := h
  unfold m3of mth3
  rw [a, b, c, d]
  rw [c] at f
  exact sim_trdF (sim_map (f := fun t s => hvs (R t) (y.1 + 1) (y.2.2.2.1 t) s) (fun t s s' z => sim_hvs _ _ _ z) (sim_unl _ f e)) tn (Nat.le_refl _)
theorem sim_step {tn : Nat} {E R ed : Nat → Nat} {x y : MS} (h : simX tn x y) : simX tn (mstep tn E R ed x) (mstep tn E R ed y) := by
  obtain ⟨i1, i2⟩ := sim_m3 (E := E) (R := R) (ed := ed) h
  obtain ⟨a, b, c, d, e, f⟩ := h
  have j : simT tn (mthS tn E R x.2.2.2.1 ed (x.1 + 1) x.2.1 x.2.2.1 x.2.2.2.2) (mthS tn E R y.2.2.2.1 ed (y.1 + 1) y.2.1 y.2.2.1 y.2.2.2.2) := by
    unfold mthS s5 s4
    rw [a]
    refine sim_map (fun t s s' z => sim_spo _ _ _ z) (sim_map (fun t s s' z => sim_eat _ z) ?_)
    have := i2
    unfold m3of at this
    rw [a] at this
    exact this
  refine ⟨by show x.1 + 1 = y.1 + 1; rw [a], i1, by show cleft _ _ = cleft _ _; rw [a, c], rfl, ?_, fun q hq => f q (List.mem_filter.mp hq).1⟩
  show simT tn (mthT tn E R x.2.2.2.1 ed (x.1 + 1) x.2.1 x.2.2.1 x.2.2.2.2) (mthT tn E R y.2.2.2.1 ed (y.1 + 1) y.2.1 y.2.2.1 y.2.2.2.2)
  unfold mthT
  rw [a] at j ⊢
  by_cases q : 0 < ed 7 ∧ (y.1 + 1) % 12 = 0
  · rw [if_pos q, if_pos q]; exact sim_map (fun t s s' z => sim_trn _ _ z) j
  · rw [if_neg q, if_neg q]; exact j
theorem sim_its {tn : Nat} {E R ed : Nat → Nat} {x y : MS} (h : simX tn x y) : ∀ n, simX tn (mits tn E R ed n x) (mits tn E R ed n y)
  | 0 => h
  | n + 1 => sim_step (sim_its h n)
theorem hg_sim {E : Nat → Nat} {tn : Nat} {T T' : Nat → ST} (h : simT tn T T') : ∀ n, n ≤ tn → hgN E T n = hgN E T' n
  | 0, _ => rfl
  | n + 1, hn => by rw [hgN, hgN, hg_sim h n (by omega), (h n (by omega)).1]
theorem fore_sim {tn : Nat} {E R ed : Nat → Nat} {x y : MS} (h : simX tn x y) : ∀ n, foreN tn E R ed n x = foreN tn E R ed n y
  | 0 => rfl
  | n + 1 => by rw [foreN, foreN, fore_sim h n, hg_sim (sim_m3 (sim_its h n)).2 tn (Nat.le_refl _)]
/-- FORETOLD for n MONTHS -/
def fore (tn : Nat) (E R nx : Nat → Nat) (mo co : Nat) (C : List Cr) (T : Nat → ST) (n : Nat) : Nat := foreN tn E R nx n (mo, co, C, (fun _ => 0), T)
theorem hsum_cp {tn : Nat} {J : Nat → Nat → Int64} {T : Nat → ST} : ∀ n, n ≤ tn → hsum n (cpT tn J T) = 0
  | 0, _ => rfl
  | n + 1, h => by
    have hn : n < tn := by omega
    rw [hsum, hsum_cp n (by omega)]
    simp [cpT, hn]
theorem fore_cp {tn : Nat} {E R nx : Nat → Nat} {mo co : Nat} {C : List Cr} {T : Nat → ST} {J : Nat → Nat → Int64} (hC : ∀ c ∈ C, c.1 < tn) (n : Nat) : hsum tn (mits tn E R nx n (mo, co, C, (fun _ => 0), cpT tn J T)).2.2.2.2 = lN (fore tn E R nx mo co C T n) := by
  rw [hsum_its, hsum_cp tn (Nat.le_refl _), Int64.zero_add]
  congr 1
  refine fore_sim (x := (mo, co, C, (fun _ => 0), cpT tn J T)) (y := (mo, co, C, (fun _ => 0), T)) ⟨rfl, rfl, rfl, rfl, fun t ht => ?_, hC⟩ n
  show sim (cpT tn J T t) (T t)
  simp only [cpT, if_pos ht]
  exact ⟨rfl, rfl⟩
