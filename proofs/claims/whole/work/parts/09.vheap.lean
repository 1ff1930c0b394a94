/-! worlds as lists: parts, joins, other orders -/
theorem wP_iff {D : va_G} {cl : List vw_C} {ws : va_W} {H : Heap} : va_P D cl ws H ↔ ∀ q ∈ ws, va_at D cl q H := by
  constructor
  · intro h q hq
    obtain ⟨k, hk⟩ := List.mem_iff_getElem?.mp hq
    exact h k q hk
  · intro h k q hq
    exact h q (List.mem_of_getElem? hq)
theorem wD_iff {A : Nat → Prop} {ws : va_W} : va_D A ws ↔ (ws.map Prod.fst).Nodup ∧ ∀ q ∈ ws, A q.1 := by
  constructor
  · rintro ⟨h1, h2⟩
    refine ⟨?_, fun q hq => ?_⟩
    · refine List.pairwise_iff_getElem.mpr ?_
      intro i j hi hj hij e
      simp only [List.length_map] at hi hj
      simp only [List.getElem_map] at e
      have := h1 i j _ _ (List.getElem?_eq_getElem hi) (List.getElem?_eq_getElem hj) e
      omega
    · obtain ⟨k, hk⟩ := List.mem_iff_getElem?.mp hq
      exact h2 k q hk
  · rintro ⟨h1, h2⟩
    refine ⟨?_, fun k q hq => h2 q (List.mem_of_getElem? hq)⟩
    intro i j p q hp hq e
    obtain ⟨hi, ei⟩ := List.getElem?_eq_some_iff.mp hp
    obtain ⟨hj, ej⟩ := List.getElem?_eq_some_iff.mp hq
    have h3 := List.pairwise_iff_getElem.mp h1
    rcases Nat.lt_trichotomy i j with h | h | h
    · exact absurd (by rw [List.getElem_map, List.getElem_map, ei, ej]; exact e) (h3 i j (by simpa using hi) (by simpa using hj) h)
    · exact h
    · exact absurd (by rw [List.getElem_map, List.getElem_map, ei, ej]; exact e.symm) (h3 j i (by simpa using hj) (by simpa using hi) h)
theorem wA_iff {ws : va_W} {sz q : Nat} : va_A ws sz q ↔ q ∈ ws.map Prod.fst ∨ sz ≤ q := by
  constructor
  · rintro (⟨k, e, h⟩ | h)
    · exact Or.inl (List.mem_map.mpr ⟨_, List.mem_of_getElem? h, rfl⟩)
    · exact Or.inr h
  · rintro (h | h)
    · obtain ⟨p, hp, rfl⟩ := List.mem_map.mp h
      obtain ⟨k, hk⟩ := List.mem_iff_getElem?.mp hp
      exact Or.inl ⟨k, p.2, hk⟩
    · exact Or.inr h
theorem wP_perm {D : va_G} {cl : List vw_C} {ws ws' : va_W} {H : Heap} (h : ws.Perm ws') (p : va_P D cl ws H) : va_P D cl ws' H := wP_iff.mpr (fun q hq => wP_iff.mp p q (h.mem_iff.mpr hq))
theorem wD_perm {A : Nat → Prop} {ws ws' : va_W} (h : ws.Perm ws') (p : va_D A ws) : va_D A ws' := by
  have := wD_iff.mp p
  exact wD_iff.mpr ⟨(h.map Prod.fst).nodup_iff.mp this.1, fun q hq => this.2 q (h.mem_iff.mpr hq)⟩
/-- a part of a world goes into a call and comes back as another: the rest is as it was -/
theorem w_join {A0 : Nat → Prop} {D : va_G} {cl : List vw_C} {WA wc WB w1 : va_W} {H H1 : Heap} (hP : va_P D cl (WA ++ wc ++ WB) H) (hD : va_D A0 (WA ++ wc ++ WB)) (hk : ∀ q : Nat, q < H.size → ¬ va_A wc H.size q → H1[q]? = H[q]?) (hF : ∀ q, va_A wc H.size q → A0 q) (hP1 : va_P D cl w1 H1) (hD1 : va_D (va_A wc H.size) w1) :
    va_P D cl (WA ++ w1 ++ WB) H1 ∧ va_D A0 (WA ++ w1 ++ WB) := by
  have p := wP_iff.mp hP
  obtain ⟨d1, d2⟩ := wD_iff.mp hD
  have p1 := wP_iff.mp hP1
  obtain ⟨e1, e2⟩ := wD_iff.mp hD1
  simp only [List.map_append, List.nodup_append] at d1
  obtain ⟨⟨dA, dc, dAc⟩, dB, dAB⟩ := d1
  have lt : ∀ q ∈ WA ++ wc ++ WB, q.1 < H.size := fun q hq => (p q hq).lt
  have offA : ∀ q ∈ WA, ¬ va_A wc H.size q.1 := by
    intro q hq h
    rcases wA_iff.mp h with h | h
    · exact dAc q.1 (List.mem_map.mpr ⟨q, hq, rfl⟩) q.1 h rfl
    · exact absurd (lt q (by simp [hq])) (by omega)
  have offB : ∀ q ∈ WB, ¬ va_A wc H.size q.1 := by
    intro q hq h
    rcases wA_iff.mp h with h | h
    · exact dAB q.1 (List.mem_append.mpr (Or.inr h)) q.1 (List.mem_map.mpr ⟨q, hq, rfl⟩) rfl
    · exact absurd (lt q (by simp [hq])) (by omega)
  have out : ∀ q : Nat × va_E, q ∈ w1 → va_A wc H.size q.1 := e2
  refine ⟨wP_iff.mpr ?_, wD_iff.mpr ⟨?_, ?_⟩⟩
  · intro q hq
    simp only [List.mem_append] at hq
    rcases hq with (hq | hq) | hq
    · exact (p q (by simp [hq])).kept (hk _ (lt q (by simp [hq])) (offA q hq))
    · exact p1 q hq
    · exact (p q (by simp [hq])).kept (hk _ (lt q (by simp [hq])) (offB q hq))
  · simp only [List.map_append, List.nodup_append]
    refine ⟨⟨dA, e1, ?_⟩, dB, ?_⟩
    · intro a ha b hb e
      obtain ⟨qa, h1, rfl⟩ := List.mem_map.mp ha
      obtain ⟨qb, h2, rfl⟩ := List.mem_map.mp hb
      exact offA qa h1 (e ▸ out qb h2)
    · intro a ha b hb e
      obtain ⟨qb, h2, rfl⟩ := List.mem_map.mp hb
      rcases List.mem_append.mp ha with ha | ha
      · exact dAB a (List.mem_append.mpr (Or.inl ha)) qb.1 hb e
      · obtain ⟨qa, h1, rfl⟩ := List.mem_map.mp ha
        exact offB qb h2 (e ▸ out qa h1)
  · intro q hq
    simp only [List.mem_append] at hq
    rcases hq with (hq | hq) | hq
    · exact d2 q (by simp [hq])
    · exact hF _ (out q hq)
    · exact d2 q (by simp [hq])
section VHEAP
variable {G : GG} {X : CX} {my : MethodName} {cc : ByteArray} {mL : Nat} {mr : Option FieldType} {R : Room} {A : Nat → Prop} {Q : State → Prop} {kc kn : Nat} {ws : va_W} {lv : List (Nat × Value)} {pc : Nat} {rest : List Value}
theorem V.wd {ws' : va_W} (h : ws = ws') (k : V G X my cc mL mr R A Q kc kn ws' lv pc rest) : V G X my cc mL mr R A Q kc kn ws lv pc rest := h ▸ k
theorem V.perm {ws' : va_W} (h : ws.Perm ws') (k : V G X my cc mL mr R A Q kc kn ws' lv pc rest) : V G X my cc mL mr R A Q kc kn ws lv pc rest := fun H locs ls ok hl hP hD hS => k H locs ls ok hl (wP_perm h hP) (wD_perm h hD) hS
theorem V.to {st : List Value} {lv' : List (Nat × Value)} {pc' : Nat} (h1 : lv = lv') (h2 : rest = st) (h3 : pc = pc') (k : V G X my cc mL mr R A Q kc kn ws lv' pc' st) : V G X my cc mL mr R A Q kc kn ws lv pc rest := h1 ▸ h2 ▸ h3 ▸ k
theorem V.topi {x : Int32} (k : ∀ y : Int32, y = x → V G X my cc mL mr R A Q kc kn ws lv pc (.int y :: rest)) : V G X my cc mL mr R A Q kc kn ws lv pc (.int x :: rest) := k x rfl
theorem V.topl {x : Int64} (k : ∀ y : Int64, y = x → V G X my cc mL mr R A Q kc kn ws lv pc (.long y :: rest)) : V G X my cc mL mr R A Q kc kn ws lv pc (.long x :: rest) := k x rfl
theorem V.ei {x y : Int32} (h : x = y) (k : V G X my cc mL mr R A Q kc kn ws lv pc (.int y :: rest)) : V G X my cc mL mr R A Q kc kn ws lv pc (.int x :: rest) := h ▸ k
theorem V.el {x y : Int64} (h : x = y) (k : V G X my cc mL mr R A Q kc kn ws lv pc (.long y :: rest)) : V G X my cc mL mr R A Q kc kn ws lv pc (.long x :: rest) := h ▸ k
theorem V.widen {k2 n2 : Nat} (h1 : kc ≤ k2) (h2 : kn ≤ n2) (k : V G X my cc mL mr R A Q k2 n2 ws lv pc rest) : V G X my cc mL mr R A Q kc kn ws lv pc rest := fun H locs ls ok hl hP hD hS => W.widen h1 h2 (k H locs ls ok hl hP hD hS)
theorem V.fewer {lv' : List (Nat × Value)} (h : ∀ q ∈ lv', q ∈ lv) (k : V G X my cc mL mr R A Q kc kn ws lv' pc rest) : V G X my cc mL mr R A Q kc kn ws lv pc rest := fun H locs ls ok hl hP hD hS => k H locs ls ok ⟨hl.1, hl.2.1, fun q hq => hl.2.2 q (h q hq)⟩ hP hD hS
theorem V.lcmp {x y : Int64} (hdg : decode cc pc = .ok (.lcmp, 1)) (k : V G X my cc mL mr R A Q kc kn ws lv (pc + 1) (.int (lg_cmp x y) :: rest)) : V G X my cc mL mr R A Q kc kn ws lv pc (.long y :: .long x :: rest) := fun H locs ls ok hl hP hD hS => W.lcmp ok.1 ok.2.1 hdg (k H locs ls ok hl hP hD hS)
theorem V.lc_lt {x y : Int64} {off : Int} {tgt : Nat} (h0 : decode cc pc = .ok (.lcmp, 1)) (hdg : decode cc (pc + 1) = .ok (.ifCond .lt off, 3)) (ht : ((pc + 1 : Nat) : Int) + off = (tgt : Int)) (kt : x < y → V G X my cc mL mr R A Q kc kn ws lv tgt rest) (kf : ¬ x < y → V G X my cc mL mr R A Q kc kn ws lv (pc + 1 + 3) rest) : V G X my cc mL mr R A Q kc kn ws lv pc (.long y :: .long x :: rest) := V.lcmp h0 (V.if_lt hdg ht (fun h => kt ((lg_cmp_lt x y).mp h)) (fun h => kf (fun z => h ((lg_cmp_lt x y).mpr z))))
theorem V.lc_gt {x y : Int64} {off : Int} {tgt : Nat} (h0 : decode cc pc = .ok (.lcmp, 1)) (hdg : decode cc (pc + 1) = .ok (.ifCond .gt off, 3)) (ht : ((pc + 1 : Nat) : Int) + off = (tgt : Int)) (kt : y < x → V G X my cc mL mr R A Q kc kn ws lv tgt rest) (kf : ¬ y < x → V G X my cc mL mr R A Q kc kn ws lv (pc + 1 + 3) rest) : V G X my cc mL mr R A Q kc kn ws lv pc (.long y :: .long x :: rest) := V.lcmp h0 (V.if_gt hdg ht (fun h => kt ((lg_cmp_gt x y).mp h)) (fun h => kf (fun z => h ((lg_cmp_gt x y).mpr z))))
theorem V.lc_eq {x y : Int64} {off : Int} {tgt : Nat} (h0 : decode cc pc = .ok (.lcmp, 1)) (hdg : decode cc (pc + 1) = .ok (.ifCond .eq off, 3)) (ht : ((pc + 1 : Nat) : Int) + off = (tgt : Int)) (kt : x = y → V G X my cc mL mr R A Q kc kn ws lv tgt rest) (kf : ¬ x = y → V G X my cc mL mr R A Q kc kn ws lv (pc + 1 + 3) rest) : V G X my cc mL mr R A Q kc kn ws lv pc (.long y :: .long x :: rest) := V.lcmp h0 (V.if_eq hdg ht (fun h => kt ((lg_cmp_eq x y).mp h)) (fun h => kf (fun z => h ((lg_cmp_eq x y).mpr z))))
theorem V.lc_ge {x y : Int64} {off : Int} {tgt : Nat} (h0 : decode cc pc = .ok (.lcmp, 1)) (hdg : decode cc (pc + 1) = .ok (.ifCond .ge off, 3)) (ht : ((pc + 1 : Nat) : Int) + off = (tgt : Int)) (kt : y ≤ x → V G X my cc mL mr R A Q kc kn ws lv tgt rest) (kf : ¬ y ≤ x → V G X my cc mL mr R A Q kc kn ws lv (pc + 1 + 3) rest) : V G X my cc mL mr R A Q kc kn ws lv pc (.long y :: .long x :: rest) := V.lcmp h0 (V.if_ge hdg ht (fun h => kt ((lg_cmp_ge x y).mp h)) (fun h => kf (fun z => h ((lg_cmp_ge x y).mpr z))))
theorem V.lc_le {x y : Int64} {off : Int} {tgt : Nat} (h0 : decode cc pc = .ok (.lcmp, 1)) (hdg : decode cc (pc + 1) = .ok (.ifCond .le off, 3)) (ht : ((pc + 1 : Nat) : Int) + off = (tgt : Int)) (kt : x ≤ y → V G X my cc mL mr R A Q kc kn ws lv tgt rest) (kf : ¬ x ≤ y → V G X my cc mL mr R A Q kc kn ws lv (pc + 1 + 3) rest) : V G X my cc mL mr R A Q kc kn ws lv pc (.long y :: .long x :: rest) := V.lcmp h0 (V.if_le hdg ht (fun h => kt ((lg_cmp_le x y).mp h)) (fun h => kf (fun z => h ((lg_cmp_le x y).mpr z))))
theorem V.lc_ne {x y : Int64} {off : Int} {tgt : Nat} (h0 : decode cc pc = .ok (.lcmp, 1)) (hdg : decode cc (pc + 1) = .ok (.ifCond .ne off, 3)) (ht : ((pc + 1 : Nat) : Int) + off = (tgt : Int)) (kt : ¬ x = y → V G X my cc mL mr R A Q kc kn ws lv tgt rest) (kf : x = y → V G X my cc mL mr R A Q kc kn ws lv (pc + 1 + 3) rest) : V G X my cc mL mr R A Q kc kn ws lv pc (.long y :: .long x :: rest) := V.lcmp h0 (V.if_ne hdg ht (fun h => kt (fun z => h ((lg_cmp_eq x y).mpr z))) (fun h => kf ((lg_cmp_eq x y).mp h)))
theorem V.get {C ref : String} {T : u_T} {N ci index a : Nat} {fs : List Value} {v : Value} (q0 k : Nat) (he : ws[q0]? = some (a, .inr (ci, fs))) (hc : vwCl[ci]? = some (C, T, N)) (hv : fs[k]? = some v) (hin : ∀ w ∈ u_ws C T N, w ∈ lw_good) (hk : k < N) (hlink : Cond.fieldLink my.cls index ref (T k).2.1 (T k).2.2.1 ∈ lw_good) (href : (T k).1 = ref) (hdg : decode cc pc = .ok (.getfield index, 3)) (kk : V G X my cc mL mr R A Q kc kn ws lv (pc + 3) (v :: rest)) : V G X my cc mL mr R A Q kc kn ws lv pc (.ref a :: rest) := fun H locs ls ok hl hP hD hS => va_get (D := G.1) ok.1 ok.2.1 ok.2.2.2.2.1 hin ok.2.2.2.1 ok.2.2.2.2.2.1.1 hP q0 he hc k hk (ok.2.2.2.2.1 _ hlink) (fun x h => href ▸ h) hv hdg (kk H locs ls ok hl hP hD hS)
theorem V.put {C ref : String} {T : u_T} {N ci index a : Nat} {fs : List Value} {v : Value} {ws' : va_W} {ty : FieldType} {ty0 : Nat → FieldType} (q0 k : Nat) (he : ws[q0]? = some (a, .inr (ci, fs))) (hc : vwCl[ci]? = some (C, T, N)) (hw : ws.set q0 (a, .inr (ci, fs.set k v)) = ws') (hin : ∀ w ∈ u_ws C T N, w ∈ lw_good) (hty : ∀ k, k < N → parseFieldDescriptor (T k).2.2.1 = some (ty0 k)) (hnm : ∀ a, a < N → ∀ b, b < N → a ≠ b → (T a).2.1 ≠ (T b).2.1) (hk : k < N) (hlink : Cond.fieldLink my.cls index ref (T k).2.1 (T k).2.2.1 ∈ lw_good) (href : (T k).1 = ref) (hfin : (T k).2.2.2 = false) (hd : ty0 k = ty) (hn : narrow ty v = v) (hfit : fits ty v = true) (hl : k < fs.length) (hdg : decode cc pc = .ok (.putfield index, 3)) (kk : V G X my cc mL mr R A Q kc kn ws' lv (pc + 3) rest) : V G X my cc mL mr R A Q kc kn ws lv pc (v :: .ref a :: rest) := fun H locs ls ok hl0 hP hD hS => va_put (D := G.1) ok.1 ok.2.1 ok.2.2.2.2.1 hin ty0 hty hnm ok.2.2.2.1 ok.2.2.2.2.2.1.1 hP hD hS q0 he hc k hk (ok.2.2.2.2.1 _ hlink) (fun x h => href ▸ h) hfin (by rw [hty k hk, hd]) hn hfit hl hdg (fun H1 locs1 p1 d1 s1 => kk H1 locs1 ls ok hl0 (hw ▸ p1) (hw ▸ d1) s1)
theorem V.putF {C ref : String} {T : u_T} {N ci index a : Nat} {fs : List Value} {v : Value} {ws' : va_W} {ty : FieldType} {ty0 : Nat → FieldType} (q0 k : Nat) (he : ws[q0]? = some (a, .inr (ci, fs))) (hc : vwCl[ci]? = some (C, T, N)) (hw : ws.set q0 (a, .inr (ci, fs.set k v)) = ws') (hin : ∀ w ∈ u_ws C T N, w ∈ lw_good) (hty : ∀ k, k < N → parseFieldDescriptor (T k).2.2.1 = some (ty0 k)) (hnm : ∀ a, a < N → ∀ b, b < N → a ≠ b → (T a).2.1 ≠ (T b).2.1) (hk : k < N) (hlink : Cond.fieldLink my.cls index ref (T k).2.1 (T k).2.2.1 ∈ lw_good) (href : (T k).1 = ref) (hfin : (T k).2.2.2 = true) (hi : my.name = "<init>") (hdecl : (T k).1 = my.cls) (hd : ty0 k = ty) (hn : narrow ty v = v) (hfit : fits ty v = true) (hl : k < fs.length) (hdg : decode cc pc = .ok (.putfield index, 3)) (kk : V G X my cc mL mr R A Q kc kn ws' lv (pc + 3) rest) : V G X my cc mL mr R A Q kc kn ws lv pc (v :: .ref a :: rest) := fun H locs ls ok hl0 hP hD hS => va_putF (D := G.1) ok.1 ok.2.1 ok.2.2.2.2.1 hin ty0 hty hnm ok.2.2.2.1 ok.2.2.2.2.2.1.1 hP hD hS q0 he hc k hk (ok.2.2.2.2.1 _ hlink) (fun x h => href ▸ h) hfin (by rw [ok.2.2.2.2.2.2.2.2.2.1]; exact hi) hdecl (by rw [hty k hk, hd]) hn hfit hl hdg (fun H1 locs1 p1 d1 s1 => kk H1 locs1 ls ok hl0 (hw ▸ p1) (hw ▸ d1) s1)
theorem vin {i : Int32} {j n : Nat} (hi : i = nI j) (hj : j < n) (hn : n < 2 ^ 31) : vp_in i n ∧ i.toNatClampNeg = j := by
  subst hi
  exact ⟨vp_in_nI hj hn, nI_clamp (by omega)⟩
theorem V.iald {n a : Nat} {f : Nat → Int32} {i : Int32} (q0 j : Nat) (ha : ws[q0]? = some (a, .inl (gI G, n, .inl f))) (hi : i = nI j) (hj : j < n) (hn : n < 2 ^ 31) (hdg : decode cc pc = .ok (.iaload, 1)) (kk : V G X my cc mL mr R A Q kc kn ws lv (pc + 1) (.int (f j) :: rest)) : V G X my cc mL mr R A Q kc kn ws lv pc (.int i :: .ref a :: rest) := fun H locs ls ok hl hP hD hS => va_iald (D := G.1) ok.1 ok.2.1 ok.2.2.2.2.2.1.1 hP q0 1 ha rfl (vin hi hj hn).1 hdg (by rw [(vin hi hj hn).2]; exact kk H locs ls ok hl hP hD hS)
theorem V.bald {n a : Nat} {f : Nat → Int32} {i : Int32} (q0 j : Nat) (ha : ws[q0]? = some (a, .inl (gB G, n, .inl f))) (hi : i = nI j) (hj : j < n) (hn : n < 2 ^ 31) (hdg : decode cc pc = .ok (.baload, 1)) (kk : V G X my cc mL mr R A Q kc kn ws lv (pc + 1) (.int (f j) :: rest)) : V G X my cc mL mr R A Q kc kn ws lv pc (.int i :: .ref a :: rest) := fun H locs ls ok hl hP hD hS => va_bald (D := G.1) ok.1 ok.2.1 ok.2.2.2.2.2.1.1 hP q0 0 ha rfl (vin hi hj hn).1 hdg (by rw [(vin hi hj hn).2]; exact kk H locs ls ok hl hP hD hS)
theorem V.zald {n a : Nat} {f : Nat → Int32} {i : Int32} (q0 j : Nat) (ha : ws[q0]? = some (a, .inl (gZ G, n, .inl f))) (hi : i = nI j) (hj : j < n) (hn : n < 2 ^ 31) (hdg : decode cc pc = .ok (.baload, 1)) (kk : V G X my cc mL mr R A Q kc kn ws lv (pc + 1) (.int (f j) :: rest)) : V G X my cc mL mr R A Q kc kn ws lv pc (.int i :: .ref a :: rest) := fun H locs ls ok hl hP hD hS => va_zald (D := G.1) ok.1 ok.2.1 ok.2.2.2.2.2.1.1 hP q0 3 ha rfl (vin hi hj hn).1 hdg (by rw [(vin hi hj hn).2]; exact kk H locs ls ok hl hP hD hS)
theorem V.lald {n a : Nat} {f : Nat → Int64} {i : Int32} (q0 j : Nat) (ha : ws[q0]? = some (a, .inl (gJ G, n, .inr (.inl f)))) (hi : i = nI j) (hj : j < n) (hn : n < 2 ^ 31) (hdg : decode cc pc = .ok (.laload, 1)) (kk : V G X my cc mL mr R A Q kc kn ws lv (pc + 1) (.long (f j) :: rest)) : V G X my cc mL mr R A Q kc kn ws lv pc (.int i :: .ref a :: rest) := fun H locs ls ok hl hP hD hS => va_lald (D := G.1) ok.1 ok.2.1 ok.2.2.2.2.2.1.1 hP q0 2 ha rfl (vin hi hj hn).1 hdg (by rw [(vin hi hj hn).2]; exact kk H locs ls ok hl hP hD hS)
theorem V.iast {n a : Nat} {f : Nat → Int32} {i : Int32} {x : Int32} {ws' : va_W} (q0 j : Nat) (ha : ws[q0]? = some (a, .inl (gI G, n, .inl f))) (hi : i = nI j) (hj : j < n) (hn : n < 2 ^ 31) (hw : ws.set q0 (a, .inl (gI G, n, .inl (upd f j x))) = ws') (hdg : decode cc pc = .ok (.iastore, 1)) (kk : V G X my cc mL mr R A Q kc kn ws' lv (pc + 1) rest) : V G X my cc mL mr R A Q kc kn ws lv pc (.int x :: .int i :: .ref a :: rest) := fun H locs ls ok hl hP hD hS => va_iast (D := G.1) ok.1 ok.2.1 ok.2.2.2.2.2.1.1 hP hD hS q0 1 ha rfl (vin hi hj hn).1 hdg (fun H1 locs1 p1 d1 s1 => by rw [(vin hi hj hn).2] at p1 d1; exact kk H1 locs1 ls ok hl (hw ▸ p1) (hw ▸ d1) s1)
theorem V.bast {n a : Nat} {f : Nat → Int32} {i : Int32} {x : Int32} {ws' : va_W} (q0 j : Nat) (ha : ws[q0]? = some (a, .inl (gB G, n, .inl f))) (hi : i = nI j) (hj : j < n) (hn : n < 2 ^ 31) (hw : ws.set q0 (a, .inl (gB G, n, .inl (upd f j (vp_nar .byte x)))) = ws') (hdg : decode cc pc = .ok (.bastore, 1)) (kk : V G X my cc mL mr R A Q kc kn ws' lv (pc + 1) rest) : V G X my cc mL mr R A Q kc kn ws lv pc (.int x :: .int i :: .ref a :: rest) := fun H locs ls ok hl hP hD hS => va_bast (D := G.1) ok.1 ok.2.1 ok.2.2.2.2.2.1.1 hP hD hS q0 0 ha rfl (vin hi hj hn).1 hdg (fun H1 locs1 p1 d1 s1 => by rw [(vin hi hj hn).2] at p1 d1; exact kk H1 locs1 ls ok hl (hw ▸ p1) (hw ▸ d1) s1)
theorem V.zast {n a : Nat} {f : Nat → Int32} {i : Int32} {x : Int32} {ws' : va_W} (q0 j : Nat) (ha : ws[q0]? = some (a, .inl (gZ G, n, .inl f))) (hi : i = nI j) (hj : j < n) (hn : n < 2 ^ 31) (hw : ws.set q0 (a, .inl (gZ G, n, .inl (upd f j (vp_nar .boolean x)))) = ws') (hdg : decode cc pc = .ok (.bastore, 1)) (kk : V G X my cc mL mr R A Q kc kn ws' lv (pc + 1) rest) : V G X my cc mL mr R A Q kc kn ws lv pc (.int x :: .int i :: .ref a :: rest) := fun H locs ls ok hl hP hD hS => va_zast (D := G.1) ok.1 ok.2.1 ok.2.2.2.2.2.1.1 hP hD hS q0 3 ha rfl (vin hi hj hn).1 hdg (fun H1 locs1 p1 d1 s1 => by rw [(vin hi hj hn).2] at p1 d1; exact kk H1 locs1 ls ok hl (hw ▸ p1) (hw ▸ d1) s1)
theorem V.last {n a : Nat} {f : Nat → Int64} {i : Int32} {x : Int64} {ws' : va_W} (q0 j : Nat) (ha : ws[q0]? = some (a, .inl (gJ G, n, .inr (.inl f)))) (hi : i = nI j) (hj : j < n) (hn : n < 2 ^ 31) (hw : ws.set q0 (a, .inl (gJ G, n, .inr (.inl (vp_updL f j x)))) = ws') (hdg : decode cc pc = .ok (.lastore, 1)) (kk : V G X my cc mL mr R A Q kc kn ws' lv (pc + 1) rest) : V G X my cc mL mr R A Q kc kn ws lv pc (.long x :: .int i :: .ref a :: rest) := fun H locs ls ok hl hP hD hS => va_last (D := G.1) ok.1 ok.2.1 ok.2.2.2.2.2.1.1 hP hD hS q0 2 ha rfl (vin hi hj hn).1 hdg (fun H1 locs1 p1 d1 s1 => by rw [(vin hi hj hn).2] at p1 d1; exact kk H1 locs1 ls ok hl (hw ▸ p1) (hw ▸ d1) s1)
theorem V.alen {cA : ClassId} {a : Nat} {x : vp_A} {ty : FieldType} {v : Int32} (q0 t0 : Nat) (ha : ws[q0]? = some (a, .inl (cA, x))) (ht : (tg G)[t0]? = some (cA, ty)) (hv : Int32.ofNat x.1 = v) (hdg : decode cc pc = .ok (.arraylength, 1)) (kk : V G X my cc mL mr R A Q kc kn ws lv (pc + 1) (.int v :: rest)) : V G X my cc mL mr R A Q kc kn ws lv pc (.ref a :: rest) := fun H locs ls ok hl hP hD hS => va_alen (D := G.1) ok.1 ok.2.1 ok.2.2.2.2.2.1.1 hP q0 t0 ha ht hv hdg (kk H locs ls ok hl hP hD hS)
theorem V.objInit {idx a : Nat} (hlink : Cond.methodLink my.cls idx objectInit ∈ lw_good) (hdg : decode cc pc = .ok (.invokespecial idx, 3)) (hf : 1 ≤ R.frames) (hs : (rest.map fun v => v.category).sum + 12 ≤ R.locals) (kk : V G X my cc mL mr R A Q kc kn ws lv (pc + 3) rest) : V G X my cc mL mr R A Q kc kn ws lv pc (.ref a :: rest) := fun H locs ls ok hl hP hD hS => W.objInit ok.1 ok.2.1 ok.2.2.2.1 (ok.2.2.2.2.1 _ hlink) (ok.2.2.2.2.1 _ kI_objectInit) (ok.2.2.2.2.1 _ kC_objectInit) rfl (by rw [ok.2.2.1]; exact hl.1) rfl hdg hf (by show 2 * 0 + _ + 12 ≤ _; omega) (kk H locs ls ok hl hP hD hS)
theorem V.new {C : String} {T : u_T} {N ci index : Nat} {fs : List Value} {ty : Nat → FieldType} (hc : vwCl[ci]? = some (C, T, N)) (hin : ∀ w ∈ u_ws C T N, w ∈ lw_good) (hty : ∀ k, k < N → parseFieldDescriptor (T k).2.2.1 = some (ty k)) (hcl : Cond.classLink my.cls index C ∈ lw_good) (hinst : Cond.instantiable C N ∈ lw_good) (hini : Cond.initialized C ∈ lw_good) (hfs : ∀ j, j < N → defaultValue (ty j) = vp_V fs j) (h1 : kc + 1 ≤ R.cells) (h2 : kn + N ≤ R.slots) (hdg : decode cc pc = .ok (.new index, 3)) (kk : ∀ q : Nat, V G X my cc mL mr R A Q (kc + 1) (kn + N) (ws ++ [(q, .inr (ci, fs))]) lv (pc + 3) (.ref q :: rest)) : V G X my cc mL mr R A Q kc kn ws lv pc rest := fun H locs ls ok hl hP hD hS => va_new (D := G.1) ok.1 ok.2.1 ok.2.2.2.2.1 hin ty hty ok.2.2.2.1 (ok.2.2.2.2.1 _ hcl) (ok.2.2.2.2.1 _ hinst) (ok.2.2.2.2.1 _ hini) ok.2.2.2.2.2.1.1 hP hD hS ok.2.2.2.2.2.2.1 hc hfs h1 h2 hdg (fun q H1 p1 d1 s1 => kk q H1 locs ls ok hl p1 d1 s1)
theorem V.newa {atype : ArrayType} {n : Int32} {N : Nat} {ty : FieldType} {cA : ClassId} {a0 : vp_A} (harr : Cond.arrayClass (newarray.typeOf atype) ∈ lw_good) (hty : newarray.typeOf atype = ty) (hcA : ∀ U : State, gN G U → U.vm.findClass ("[" ++ ty.toString) = some cA) (hra : ∀ (U : State) (c : ClassId), va_RA U c ty → U.vm.findClass ("[" ++ ty.toString) = some c) (ha : ∀ c : ClassId, vp_cell c a0 = arrV c N (fun _ => defaultValue ty)) (hn : ¬ n < 0) (hN : n.toNatClampNeg = N) (hb : N * componentBytes ty ≤ 536870912) (h1 : kc + 1 ≤ R.cells) (h2 : kn + N ≤ R.slots) (hdg : decode cc pc = .ok (.newarray atype, 2)) (kk : ∀ q : Nat, V G X my cc mL mr R A Q (kc + 1) (kn + N) (ws ++ [(q, .inl (cA, a0))]) lv (pc + 2) (.ref q :: rest)) : V G X my cc mL mr R A Q kc kn ws lv pc (.int n :: rest) := by
  intro H locs ls ok hl hP hD hS
  refine va_newa (D := G.1) ok.1 ok.2.1 (ok.2.2.2.2.1 _ harr) hty ok.2.2.2.2.2.1.1 hP hD hS ok.2.2.2.2.2.2.1 ha hn hN hb h1 h2 hdg (fun q cB H1 hK p1 d1 s1 => ?_)
  have e : cB = cA := by
    have e1 := hra _ _ (hK.2 (tg G).length (cB, ty) (by simp)).2
    have e2 := hcA _ ok.2.2.2.2.2.1.2.1
    exact Option.some.inj (e1.symm.trans e2)
  subst e
  exact kk q H1 locs ls ok hl p1 d1 s1
end VHEAP
