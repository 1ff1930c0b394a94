/-! BEST: what each ROAD would spare -/
theorem inv_snd {mo r B n : Nat} {s : ST} (h : inv mo r B s) : inv mo r B (snd n s) := by
  obtain ⟨h1, h2, h3, h4, h5, h6⟩ := h
  have hl := tk_len s.2.2 n s.2.1.2.2.2.2.2
  have hs := tk_sum s.2.2 n s.2.1.2.2.2.2.2
  have hm := tk_mths s.2.2 n s.2.1.2.2.2.2.2
  exact ⟨by simp only [snd]; omega, by simp only [snd]; omega, h3, h4, fun q hq => h5 q (hm.subset hq), h6.sublist hm⟩
def bq (d : Rd) (s : ST) : Nat := min (d.2.2.2.1 - d.2.2.2.2) (tsum s.2.2)
def bcr (mo t : Nat) (d : Rd) (s : ST) : Cr := (oth d t, mo + d.2.2.1, bq d s)
def bfore (tn : Nat) (E R nx : Nat → Nat) (mo co : Nat) (C : List Cr) (T : Nat → ST) (t n : Nat) (d : Rd) : Nat := fore tn E R nx mo co (C ++ [bcr mo t d (T t)]) (upf T t (snd (bq d (T t)) (T t))) n
def bst (tn : Nat) (E R nx : Nat → Nat) (mo co : Nat) (C : List Cr) (T : Nat → ST) (rd : Nat → Rd) (t n : Nat) : Nat → Nat × Int32
  | 0 => (fore tn E R nx mo co C T n, -1)
  | r + 1 => if C.length < 60 ∧ ((rd r).1 = t ∨ (rd r).2.1 = t) ∧ 1 ≤ bq (rd r) (T t) ∧ bfore tn E R nx mo co C T t n (rd r) < (bst tn E R nx mo co C T rd t n r).1 then (bfore tn E R nx mo co C T t n (rd r), nI r) else bst tn E R nx mo co C T rd t n r
theorem bst_full {tn : Nat} {E R nx : Nat → Nat} {mo co : Nat} {C : List Cr} {T : Nat → ST} {rd : Nat → Rd} {t n : Nat} (h : ¬ C.length < 60) : ∀ r, bst tn E R nx mo co C T rd t n r = (fore tn E R nx mo co C T n, -1)
  | 0 => rfl
  | r + 1 => by rw [bst, if_neg (fun z => h z.1)]; exact bst_full h r
theorem hgN_le {E : Nat → Nat} {T : Nat → ST} (h : ∀ t, E t ≤ 1000) : ∀ n, hgN E T n ≤ 1000 * n
  | 0 => Nat.le_refl _
  | n + 1 => by have := hgN_le h (T := T) n; have := h n; rw [hgN]; omega
theorem foreN_le {tn : Nat} {E R ed : Nat → Nat} {x : MS} (h : ∀ t, E t ≤ 1000) (htn : tn ≤ 8) : ∀ n, foreN tn E R ed n x ≤ 8000 * n
  | 0 => Nat.le_refl _
  | n + 1 => by have := foreN_le (R := R) (ed := ed) (x := x) h htn n; have := hgN_le h (T := (m3of tn E R ed (mits tn E R ed n x)).2) tn; rw [foreN]; omega
theorem bst_le {tn : Nat} {E R nx : Nat → Nat} {mo co : Nat} {C : List Cr} {T : Nat → ST} {rd : Nat → Rd} {t n : Nat} (h : ∀ t, E t ≤ 1000) (htn : tn ≤ 8) : ∀ r, (bst tn E R nx mo co C T rd t n r).1 ≤ 8000 * n
  | 0 => foreN_le h htn n
  | r + 1 => by
    rw [bst]
    split
    · exact foreN_le h htn n
    · exact bst_le h htn r
theorem mst_send {I0 I I' : Nat → Nat → Int32} {J0 J J' : Nat → Nat → Int64} {x : MS} {t : Nat} {s' : ST} {c : Cr} (h : mst I0 J0 1 I J x) (hl : ∀ t, t < 8 → (x.2.2.2.2 t).2.2.length ≤ 40) (ht : t < 8) (hC : x.2.2.1.length < 60) (hs : slotR I' J' (8 * 1 + t) s') (hc : crR I' 1 (x.2.2.1 ++ [c])) (f : fr (pSd 1 t x.2.2.1.length) I I') (g : fr (pX (8 * 1 + t)) J J') : mst I0 J0 1 I' J' (x.1, x.2.1, x.2.2.1 ++ [c], x.2.2.2.1, upf x.2.2.2.2 t s') := by
  obtain ⟨h1, h2, h3, h4, h5, h6⟩ := h
  refine ⟨MRg_up h1 hl f g hs (fun k j z => ?_) (fun k j z => Or.inl z), (g 16 1 (by simp only [pX]; omega)).trans h2, (f 15 1 (by simp only [pSd, pS]; omega)).trans h3, hc, h5.tr (f.mono (fun k j z => ?_)), h6.tr (g.mono (fun k j z => ?_))⟩
  · simp only [pSd] at z
    rcases z with z | z | z
    · exact Or.inl z
    · omega
    · omega
  · simp only [pSd, pS, pG, pC] at z ⊢; omega
  · simp only [pX, pGJ, pXg] at z ⊢; omega
theorem hsum_congr {T T' : Nat → ST} : ∀ n, (∀ t, t < n → (T t).2.1.1 = (T' t).2.1.1) → hsum n T = hsum n T'
  | 0, _ => rfl
  | n + 1, h => by rw [hsum, hsum, hsum_congr n (fun t ht => h t (by omega)), h n (by omega)]
theorem sim_snd {s s' : ST} (n : Nat) (h : sim s s') : sim (snd n s) (snd n s') := ⟨h.1, core_tk n _ _ h.2⟩
theorem bfore_cp {tn : Nat} {E R nx : Nat → Nat} {mo co : Nat} {C : List Cr} {T : Nat → ST} {J : Nat → Nat → Int64} {t : Nat} {d : Rd} (hC : ∀ c ∈ C, c.1 < tn) (hd : oth d t < tn) (ht : t < tn) (n : Nat) : hsum tn (mits tn E R nx n (mo, co, C ++ [bcr mo t d (T t)], (fun _ => 0), upf (cpT tn J T) t (snd (bq d (T t)) (cpT tn J T t)))).2.2.2.2 = lN (bfore tn E R nx mo co C T t n d) := by
  have e : hsum tn (upf (cpT tn J T) t (snd (bq d (T t)) (cpT tn J T t))) = 0 := by
    rw [← hsum_cp (J := J) (T := T) tn (Nat.le_refl _)]
    refine hsum_congr tn (fun k hk => ?_)
    by_cases z : k = t
    · subst z; simp [upf, snd]
    · simp [upf, z]
  rw [hsum_its]
  rw [e, Int64.zero_add]
  congr 1
  refine fore_sim (x := (mo, co, C ++ [bcr mo t d (T t)], (fun _ => 0), upf (cpT tn J T) t (snd (bq d (T t)) (cpT tn J T t)))) (y := (mo, co, C ++ [bcr mo t d (T t)], (fun _ => 0), upf T t (snd (bq d (T t)) (T t)))) ⟨rfl, rfl, rfl, rfl, fun k hk => ?_, fun c hc => ?_⟩ n
  · have hs : ∀ k, k < tn → sim (cpT tn J T k) (T k) := fun k hk => by simp only [cpT, if_pos hk]; exact ⟨rfl, rfl⟩
    by_cases z : k = t
    · subst z; show sim (upf _ k _ k) (upf _ k _ k); rw [show upf (cpT tn J T) k (snd (bq d (T k)) (cpT tn J T k)) k = snd (bq d (T k)) (cpT tn J T k) by simp [upf], show upf T k (snd (bq d (T k)) (T k)) k = snd (bq d (T k)) (T k) by simp [upf]]; exact sim_snd _ (hs k hk)
    · show sim (upf _ t _ k) (upf _ t _ k); rw [show upf (cpT tn J T) t (snd (bq d (T t)) (cpT tn J T t)) k = cpT tn J T k by simp [upf, z], show upf T t (snd (bq d (T t)) (T t)) k = T k by simp [upf, z]]; exact hs k hk
  · rcases List.mem_append.mp hc with z | z
    · exact hC c z
    · rw [List.mem_singleton.mp z]; exact hd
theorem send_msI {tn : Nat} {R : Nat → Nat} {B mo co t : Nat} {C : List Cr} {T T1 : Nat → ST} {d : Rd} (hT : ∀ t, t < 8 → inv mo (R t) B (T1 t)) (hco : co ≤ 1000000000 + 100000000 * mo) (hmo : mo ≤ 2000) (hC60 : C.length < 60) (hC : ∀ c ∈ C, c.1 < tn ∧ c.2.1 ≤ 2100 ∧ c.2.2 ≤ 10000) (h1 : d.1 < tn) (h2 : d.2.1 < tn) (h3 : d.2.2.1 ≤ 6) (h4 : d.2.2.2.1 ≤ 10000) : msI tn R B (1000000000 + 100000000 * mo) (mo, co, C ++ [bcr mo t d (T t)], (fun _ => 0), upf T1 t (snd (bq d (T t)) (T1 t))) := by
  refine ⟨fun k hk => ?_, hco, ⟨by simp; omega, fun c hc => ?_⟩, fun _ => Nat.zero_le _⟩
  · by_cases z : k = t
    · subst z; show inv mo (R k) B (upf _ k _ k); rw [show upf T1 k (snd (bq d (T k)) (T1 k)) k = snd (bq d (T k)) (T1 k) by simp [upf]]; exact inv_snd (hT k hk)
    · show inv mo (R k) B (upf _ t _ k); rw [show upf T1 t (snd (bq d (T t)) (T1 t)) k = T1 k by simp [upf, z]]; exact hT k hk
  · rcases List.mem_append.mp hc with z | z
    · exact hC c z
    · rw [List.mem_singleton.mp z]
      refine ⟨?_, ?_, ?_⟩
      · simp only [bcr, oth]; split <;> omega
      · simp only [bcr]; omega
      · simp only [bcr, bq]; omega
