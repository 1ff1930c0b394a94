set_option maxHeartbeats 4000000 in
set_option maxRecDepth 20000 in
theorem c_X8_isTown (l : Launch) (G : GG) (o : Nat) (ad : Nat → Nat) (sc : Int32 × Int32 × Int32) (I : Nat → Nat → Int32) (J : Nat → Nat → Int64) (tn : Nat) (t : Int32) (h : sc.2.1 = nI tn) (htn : tn ≤ 8) : Ct l G yX8_isTown cX8_isTown 2 (some .boolean) rm_X8_isTown [.ref (o), .int (t)] (mw G o ad sc I J) (fun u : Unit => (mw G o ad sc I J)) (fun u : Unit => some (.int (if isT tn t then 1 else 0))) (fun u : Unit => True) := by
  refine Ct.of (by decide) (Nat.le_of_ble_eq_true rfl) (fun X A hX => ?_)
  subst hX
  refine V.to (lv' := [(0, .ref (o)), (1, .int (t))]) (st := []) (pc' := 0) rfl rfl rfl ?_
  refine V.iload_n dX8_isTown_0 rfl rfl ?_
  refine V.i2l dX8_isTown_1 rfl ?_
  refine V.lconst (v := lN 0) dX8_isTown_2 rfl ?_
  refine V.aload_n dX8_isTown_3 rfl rfl ?_
  refine Mg5 rfl dX8_isTown_4 ?_
  refine V.ei (y := nI (tn)) h ?_
  refine V.iconst (v := nI (1)) dX8_isTown_7 rfl ?_
  refine V.isub dX8_isTown_8 ?_
  refine V.i2l dX8_isTown_9 rfl ?_
  refine V.callSE (c_X8_lies _ G ((t).toInt64) (lN (0)) (((nI (tn)) - (nI (1))).toInt64)) [] rfl (goodS kM_X8_120 kS_X8_lies kN_X8 kC_X8_lies) ds_X8_lies (by decide) (Nat.le_of_ble_eq_true rfl) dX8_isTown_10 (by decide) (fun u hu => ?_)
  refine V.to (lv' := [(0, .ref (o)), (1, .int (t))]) (st := [.int (if lN (0) ≤ (t).toInt64 ∧ (t).toInt64 ≤ ((nI (tn)) - (nI (1))).toInt64 then 1 else 0)]) (pc' := 13) rfl rfl rfl ?_
  refine V.ei (y := if isT tn t then 1 else 0) (liesT t (by omega)) ?_
  exact V.zret () rfl narB rfl trivial rfl (by decide) (by decide) dX8_isTown_13
set_option maxHeartbeats 4000000 in
set_option maxRecDepth 20000 in
theorem c_X8_begins (l : Launch) (G : GG) (o : Nat) (ad : Nat → Nat) (sc : Int32 × Int32 × Int32) (I : Nat → Nat → Int32) (J : Nat → Nat → Int64) (r t : Nat) (d : Rd) (hr : r < 12) (hd : rdE I r d) (h1 : d.1 < 2 ^ 31) (h2 : d.2.1 < 2 ^ 31) (ht : t < 2 ^ 31) : Ct l G yX8_begins cX8_begins 3 (some .boolean) rm_X8_begins [.ref (o), .int (nI (r)), .int (nI (t))] (mw G o ad sc I J) (fun u : Unit => (mw G o ad sc I J)) (fun u : Unit => some (.int (if d.1 = t ∨ d.2.1 = t then 1 else 0))) (fun u : Unit => True) := by
  refine Ct.of (by decide) (Nat.le_of_ble_eq_true rfl) (fun X A hX => ?_)
  subst hX
  refine V.to (lv' := [(0, .ref (o)), (1, .int (nI (r))), (2, .int (nI (t)))]) (st := []) (pc' := 0) rfl rfl rfl ?_
  refine V.aload_n dX8_begins_0 rfl rfl ?_
  refine Mg10 rfl dX8_begins_1 ?_
  refine V.iload_n dX8_begins_4 rfl rfl ?_
  refine Ml10 (r) rfl (by omega) dX8_begins_5 ?_
  refine V.ei (y := nI (d.1)) hd.1 ?_
  refine V.iload_n dX8_begins_6 rfl rfl ?_
  refine V.icmp_eq (tgt := 20) dX8_begins_7 (by decide) (fun c_1 => ?_) (fun c_1 => ?_)
  · have e1 := (nI_eq h1 ht).mp c_1
    refine V.iconst (v := nI (1)) dX8_begins_20 rfl ?_
    refine V.goto (tgt := 25) dX8_begins_21 (by decide) ?_
    exact V.zret () rfl rfl (by rw [if_pos (Or.inl e1)]; rfl) trivial rfl (by decide) (by decide) dX8_begins_25
  · have e1 : ¬ d.1 = t := fun z => c_1 (by rw [z])
    refine V.aload_n dX8_begins_10 rfl rfl ?_
    refine Mg11 rfl dX8_begins_11 ?_
    refine V.iload_n dX8_begins_14 rfl rfl ?_
    refine Ml11 (r) rfl (by omega) dX8_begins_15 ?_
    refine V.ei (y := nI (d.2.1)) hd.2.1 ?_
    refine V.iload_n dX8_begins_16 rfl rfl ?_
    refine V.icmp_ne (tgt := 24) dX8_begins_17 (by decide) (fun c_2 => ?_) (fun c_2 => ?_)
    · have e2 : ¬ d.2.1 = t := fun z => c_2 (by rw [z])
      refine V.iconst (v := nI (0)) dX8_begins_24 rfl ?_
      exact V.zret () rfl rfl (by rw [if_neg (fun z => z.elim e1 e2)]; rfl) trivial rfl (by decide) (by decide) dX8_begins_25
    · have e2 := (nI_eq h2 ht).mp c_2
      refine V.iconst (v := nI (1)) dX8_begins_20 rfl ?_
      refine V.goto (tgt := 25) dX8_begins_21 (by decide) ?_
      exact V.zret () rfl rfl (by rw [if_pos (Or.inr e2)]; rfl) trivial rfl (by decide) (by decide) dX8_begins_25
set_option maxHeartbeats 4000000 in
set_option maxRecDepth 20000 in
theorem c_X8_hungerIn (l : Launch) (G : GG) (o : Nat) (ad : Nat → Nat) (sc : Int32 × Int32 × Int32) (I : Nat → Nat → Int32) (J : Nat → Nat → Int64) (g tn : Nat) (T : Nat → ST) (hg : g < 2) (h : sc.2.1 = nI tn) (htn : tn ≤ 8) (hT : MRg I J g T) : Ct l G yX8_hungerIn cX8_hungerIn 5 (some .long) rm_X8_hungerIn [.ref (o), .int (nI (g))] (mw G o ad sc I J) (fun u : Unit => (mw G o ad sc I J)) (fun u : Unit => some (.long (hsum tn T))) (fun u : Unit => True) := by
  refine Ct.of (by decide) (Nat.le_of_ble_eq_true rfl) (fun X A hX => ?_)
  subst hX
  refine V.to (lv' := [(0, .ref (o)), (1, .int (nI (g)))]) (st := []) (pc' := 0) rfl rfl rfl ?_
  have loop : ∀ (d : Nat) (i : Nat) (s : Int64), tn - i < d → i ≤ tn → s = hsum i T → V G X yX8_hungerIn cX8_hungerIn 5 (some .long) rm_X8_hungerIn A (MZ G X rm_X8_hungerIn A (fun u : Unit => (mw G o ad sc I J)) (fun u : Unit => some (.long (hsum tn T))) (fun u : Unit => True)) 0 0 (mw G o ad sc I J) [(4, .int (nI (i))), (2, .long (s)), (0, .ref (o)), (1, .int (nI (g)))] 5 [] := by
    intro d
    induction d with
    | zero => intro i s hd; exact absurd hd (Nat.not_lt_zero _)
    | succ d ih =>
      intro i s hd hi hs
      refine V.iload dX8_hungerIn_5 rfl ?_
      refine V.aload_n dX8_hungerIn_7 rfl rfl ?_
      refine Mg5 rfl dX8_hungerIn_8 ?_
      refine V.ei (y := nI (tn)) h ?_
      refine V.icmp_ge (tgt := 35) dX8_hungerIn_11 (by decide) (fun c_1 => ?_) (fun c_1 => ?_)
      · have hc := (nI_leI (by omega) (by omega)).mp c_1
        have he : i = tn := by omega
        subst he
        subst hs
        refine V.lload_n dX8_hungerIn_35 rfl rfl ?_
        exact V.lret () rfl rfl trivial rfl (by decide) (by decide) dX8_hungerIn_36
      · have hc : i < tn := by
          rcases Nat.lt_or_ge i tn with z | z
          · exact z
          · exact absurd (nI_le z (by omega)) c_1
        refine V.lload_n dX8_hungerIn_14 rfl rfl ?_
        refine V.aload_n dX8_hungerIn_15 rfl rfl ?_
        refine Mg24 rfl dX8_hungerIn_16 ?_
        refine V.bipush (v := nI (8)) dX8_hungerIn_19 rfl ?_
        refine V.iload_n dX8_hungerIn_21 rfl rfl ?_
        refine V.imul dX8_hungerIn_22 ?_
        refine V.ei (pk_mul _ _) ?_
        refine V.iload dX8_hungerIn_23 rfl ?_
        refine V.iadd dX8_hungerIn_25 ?_
        refine V.ei (nI_add _ _) ?_
        refine Ml24 (((8) * (g)) + (i)) rfl (by omega) dX8_hungerIn_26 ?_
        refine V.el (y := (T i).2.1.1) (hT i (by omega)).2.2.1 ?_
        refine V.ladd dX8_hungerIn_27 ?_
        refine V.lstore_n (lv' := [(2, .long ((s) + ((T i).2.1.1))), (4, .int (nI (i))), (0, .ref (o)), (1, .int (nI (g)))]) dX8_hungerIn_28 rfl (by decide) rfl ?_
        refine V.iinc (k := 1) (v := nI (i + 1)) (lv' := [(4, .int (nI (i + 1))), (2, .long ((s) + ((T i).2.1.1))), (0, .ref (o)), (1, .int (nI (g)))]) dX8_hungerIn_29 rfl (iinc1 _) (by decide) rfl ?_
        refine V.goto (tgt := 5) dX8_hungerIn_32 (by decide) ?_
        refine V.pick [0, 1, 2, 3] (lv' := [(4, .int (nI (i + 1))), (2, .long ((s) + ((T i).2.1.1))), (0, .ref (o)), (1, .int (nI (g)))]) rfl ?_; exact ih (i + 1) _ (by omega) (by omega) (by rw [hsum, hs])
  refine V.lconst (v := lN 0) dX8_hungerIn_0 rfl ?_
  refine V.lstore_n (lv' := [(2, .long (lN (0))), (0, .ref (o)), (1, .int (nI (g)))]) dX8_hungerIn_1 rfl (by decide) rfl ?_
  refine V.iconst (v := nI (0)) dX8_hungerIn_2 rfl ?_
  refine V.istore (lv' := [(4, .int (nI (0))), (2, .long (lN (0))), (0, .ref (o)), (1, .int (nI (g)))]) dX8_hungerIn_3 (by decide) rfl ?_
  refine V.pick [0, 1, 2, 3] (lv' := [(4, .int (nI (0))), (2, .long (lN (0))), (0, .ref (o)), (1, .int (nI (g)))]) rfl ?_; exact loop (tn + 1) 0 _ (by omega) (by omega) rfl
set_option maxHeartbeats 4000000 in
set_option maxRecDepth 20000 in
theorem c_X8_coin (l : Launch) (G : GG) (o : Nat) (ad : Nat → Nat) (sc : Int32 × Int32 × Int32) (I : Nat → Nat → Int32) (J : Nat → Nat → Int64) (B : Nat) (tp : List Nat) (nx : Nat → Nat) (tn rn : Nat) (E R Hv : Nat → Nat) (mo co : Nat) (C : List Cr) (T : Nat → ST) (rd : Nat → Rd) (hm : mrep sc I J tp nx tn rn E R Hv mo co C T rd) (hv : sinv B tp nx tn rn E R Hv mo co C T rd) (hB : B ≤ 2 ^ 47) (n : Int64) : Ct l G yX8_coin cX8_coin 3 (some .boolean) rm_X8_coin [.ref (o), .long (n)] (mw G o ad sc I J) (fun u : (Int32 × Int32 × Int32) × (Nat → Nat → Int32) × (Nat → Nat → Int64) => mw G o ad u.1 u.2.1 u.2.2) (fun u : (Int32 × Int32 × Int32) × (Nat → Nat → Int32) × (Nat → Nat → Int64) => some (.int (if (0 ≤ n.toInt ∧ n.toInt ≤ 1000000000) then 1 else 0))) (fun u : (Int32 × Int32 × Int32) × (Nat → Nat → Int32) × (Nat → Nat → Int64) => mrep u.1 u.2.1 u.2.2 tp nx tn rn E R Hv mo (if (0 ≤ n.toInt ∧ n.toInt ≤ 1000000000) then n.toInt.toNat else co) C T rd) := by
  refine Ct.of (by decide) (Nat.le_of_ble_eq_true rfl) (fun X A hX => ?_)
  subst hX
  refine V.to (lv' := [(0, .ref (o)), (1, .long (n))]) (st := []) (pc' := 0) rfl rfl rfl ?_
  obtain ⟨m0, m1, m2, m3, m4, m5, m6, m7, m8, m9, m10, m11, m12, m13⟩ := id hm
  obtain ⟨⟨v0, v1⟩, ⟨v2, v3⟩, ⟨v4, v5⟩, ⟨v6, v7, v8, v9⟩, ⟨v10, v11⟩, ⟨v12, v13⟩, ⟨v14, v15⟩, v16, v17⟩ := id hv
  refine V.lload_n dX8_coin_0 rfl rfl ?_
  refine V.lconst (v := lN 0) dX8_coin_1 rfl ?_
  refine V.ldc2 (v := 1000000000) kK_X8_163 dX8_coin_2 ?_
  refine V.el (y := lN 1000000000) rfl ?_
  refine V.callSE (c_X8_lies _ G (n) (lN (0)) (lN (1000000000))) [] rfl (goodS kM_X8_120 kS_X8_lies kN_X8 kC_X8_lies) ds_X8_lies (by decide) (Nat.le_of_ble_eq_true rfl) dX8_coin_5 (by decide) (fun u hu => ?_)
  refine V.to (lv' := [(0, .ref (o)), (1, .long (n))]) (st := [.int (if lN (0) ≤ n ∧ n ≤ lN (1000000000) then 1 else 0)]) (pc' := 8) rfl rfl rfl ?_
  refine V.ei (y := if (0 ≤ n.toInt ∧ n.toInt ≤ 1000000000) then 1 else 0) (by simp only [Int64.le_iff_toInt_le]; rw [lNI (by omega), lNI (by omega)]; rfl) ?_
  refine V.if_ne (tgt := 13) dX8_coin_8 (by decide) (fun c_1 => ?_) (fun c_1 => ?_)
  · have p := ite1.mp c_1
    refine V.aload_n dX8_coin_13 rfl rfl ?_
    refine Mg16 rfl dX8_coin_14 ?_
    refine V.iconst (v := nI (0)) dX8_coin_17 rfl ?_
    refine V.lload_n dX8_coin_18 rfl rfl ?_
    refine Ms16 (0) rfl (by omega) dX8_coin_19 ?_
    refine V.iconst (v := nI (1)) dX8_coin_20 rfl ?_
    exact V.zret (sc, I, (up2 J 16 (0) (n))) rfl rfl (by rw [if_pos p]; rfl) (by rw [if_pos p]; exact ⟨m0, m1, m2, m3, m4, m5, m6, m7, m8, by show up2 J 16 0 n 16 0 = _; rw [up2_s]; apply Int64.toInt_inj.mp; rw [lNI (by omega)]; omega, m10, MRg_keep (P := fun _ _ => False) (P' := fun k j => k = 16 ∧ j = 0) m11 (fun t ht => (v14 t ht).1) fr.rf (fr.up ⟨rfl, rfl⟩) (fun k j z => z.elim) (fun k j z => by omega), m12, m13⟩) rfl (by decide) (by decide) dX8_coin_21
  · have p := ite0.mp c_1
    refine V.iconst (v := nI (0)) dX8_coin_11 rfl ?_
    exact V.zret (sc, I, J) rfl rfl (by rw [if_neg p]; rfl) (by rw [if_neg p]; exact hm) rfl (by decide) (by decide) dX8_coin_12
set_option maxHeartbeats 4000000 in
set_option maxRecDepth 20000 in
theorem c_X8_harvest (l : Launch) (G : GG) (o : Nat) (ad : Nat → Nat) (sc : Int32 × Int32 × Int32) (I : Nat → Nat → Int32) (J : Nat → Nat → Int64) (B : Nat) (tp : List Nat) (nx : Nat → Nat) (tn rn : Nat) (E R Hv : Nat → Nat) (mo co : Nat) (C : List Cr) (T : Nat → ST) (rd : Nat → Rd) (hm : mrep sc I J tp nx tn rn E R Hv mo co C T rd) (hv : sinv B tp nx tn rn E R Hv mo co C T rd) (hB : B ≤ 2 ^ 47) (t n : Int32) : Ct l G yX8_harvest cX8_harvest 3 (some .boolean) rm_X8_harvest [.ref (o), .int (t), .int (n)] (mw G o ad sc I J) (fun u : (Int32 × Int32 × Int32) × (Nat → Nat → Int32) × (Nat → Nat → Int64) => mw G o ad u.1 u.2.1 u.2.2) (fun u : (Int32 × Int32 × Int32) × (Nat → Nat → Int32) × (Nat → Nat → Int64) => some (.int (if isT tn t ∧ isN 0 100000 n then 1 else 0))) (fun u : (Int32 × Int32 × Int32) × (Nat → Nat → Int32) × (Nat → Nat → Int64) => mrep u.1 u.2.1 u.2.2 tp nx tn rn E R (if isT tn t ∧ isN 0 100000 n then upf Hv (kN t) (kN n) else Hv) mo co C T rd) := by
  refine Ct.of (by decide) (Nat.le_of_ble_eq_true rfl) (fun X A hX => ?_)
  subst hX
  refine V.to (lv' := [(0, .ref (o)), (1, .int (t)), (2, .int (n))]) (st := []) (pc' := 0) rfl rfl rfl ?_
  obtain ⟨m0, m1, m2, m3, m4, m5, m6, m7, m8, m9, m10, m11, m12, m13⟩ := id hm
  obtain ⟨⟨v0, v1⟩, ⟨v2, v3⟩, ⟨v4, v5⟩, ⟨v6, v7, v8, v9⟩, ⟨v10, v11⟩, ⟨v12, v13⟩, ⟨v14, v15⟩, v16, v17⟩ := id hv
  refine V.aload_n dX8_harvest_0 rfl rfl ?_
  refine V.iload_n dX8_harvest_1 rfl rfl ?_
  refine V.callV0 (c_X8_isTown _ G o ad sc I J tn t m3 v4) [] 0 9 rfl rfl rfl rfl (goodV kM_X8_155 kI_X8_isTown kV_X8_isTown kN_X8 kC_X8_isTown) ds_X8_isTown (by decide) (Nat.le_of_ble_eq_true rfl) dX8_harvest_2 (by decide) (fun u hu => ?_)
  refine V.to (lv' := [(0, .ref (o)), (1, .int (t)), (2, .int (n))]) (st := [.int (if isT tn t then 1 else 0)]) (pc' := 5) rfl rfl rfl ?_
  refine V.if_eq (tgt := 20) dX8_harvest_5 (by decide) (fun c_1 => ?_) (fun c_1 => ?_)
  · have p := ite0.mp c_1
    refine V.iconst (v := nI (0)) dX8_harvest_20 rfl ?_
    exact V.zret (sc, I, J) rfl rfl (by rw [if_neg (fun z => p z.1)]; rfl) (by rw [if_neg (fun z => p z.1)]; exact hm) rfl (by decide) (by decide) dX8_harvest_21
  · have p := ite1.mp c_1
    refine V.iload_n dX8_harvest_8 rfl rfl ?_
    refine V.i2l dX8_harvest_9 rfl ?_
    refine V.lconst (v := lN 0) dX8_harvest_10 rfl ?_
    refine V.ldc2 (v := 100000) kK_X8_148 dX8_harvest_11 ?_
    refine V.el (y := lN 100000) rfl ?_
    refine V.callSE (c_X8_lies _ G ((n).toInt64) (lN (0)) (lN (100000))) [] rfl (goodS kM_X8_120 kS_X8_lies kN_X8 kC_X8_lies) ds_X8_lies (by decide) (Nat.le_of_ble_eq_true rfl) dX8_harvest_14 (by decide) (fun u hu => ?_)
    refine V.to (lv' := [(0, .ref (o)), (1, .int (t)), (2, .int (n))]) (st := [.int (if lN (0) ≤ (n).toInt64 ∧ (n).toInt64 ≤ lN (100000) then 1 else 0)]) (pc' := 17) rfl rfl rfl ?_
    refine V.ei (y := if isN 0 100000 n then 1 else 0) (liesI n (by omega) (by omega)) ?_
    refine V.if_ne (tgt := 22) dX8_harvest_17 (by decide) (fun c_2 => ?_) (fun c_2 => ?_)
    · have q := ite1.mp c_2
      refine V.aload_n dX8_harvest_22 rfl rfl ?_
      refine Mg9 rfl dX8_harvest_23 ?_
      refine V.iload_n dX8_harvest_26 rfl rfl ?_
      refine V.iload_n dX8_harvest_27 rfl rfl ?_
      refine Ms9 (kN t) p.k.1 (by have := p.k.2; omega) dX8_harvest_28 ?_
      refine V.iconst (v := nI (1)) dX8_harvest_29 rfl ?_
      exact V.zret (sc, (up2 I 9 (kN t) (n)), J) rfl rfl (by rw [if_pos ⟨p, q⟩]; rfl) (by rw [if_pos ⟨p, q⟩]; exact ⟨m0, m1, m2, m3, m4, m5, m6, hv_up m7 q.k.1, m8, m9, m10, MRg_keep (P := fun k j => k = 9 ∧ j = kN t) (P' := fun _ _ => False) m11 (fun t ht => (v14 t ht).1) (fr.up ⟨rfl, rfl⟩) fr.rf (fun k j z => by omega) (fun k j z => z.elim), m12, m13⟩) rfl (by decide) (by decide) dX8_harvest_30
    · have q := ite0.mp c_2
      refine V.iconst (v := nI (0)) dX8_harvest_20 rfl ?_
      exact V.zret (sc, I, J) rfl rfl (by rw [if_neg (fun z => q z.2)]; rfl) (by rw [if_neg (fun z => q z.2)]; exact hm) rfl (by decide) (by decide) dX8_harvest_21
set_option maxHeartbeats 4000000 in
set_option maxRecDepth 20000 in
theorem c_X8_town (l : Launch) (G : GG) (o : Nat) (ad : Nat → Nat) (sc : Int32 × Int32 × Int32) (I : Nat → Nat → Int32) (J : Nat → Nat → Int64) (B : Nat) (tp : List Nat) (nx : Nat → Nat) (tn rn : Nat) (E R Hv : Nat → Nat) (mo co : Nat) (C : List Cr) (T : Nat → ST) (rd : Nat → Rd) (hm : mrep sc I J tp nx tn rn E R Hv mo co C T rd) (hv : sinv B tp nx tn rn E R Hv mo co C T rd) (hB : B ≤ 2 ^ 47) (e m r : Int32) : Ct l G yX8_town cX8_town 4 (some .int) rm_X8_town [.ref (o), .int (e), .int (m), .int (r)] (mw G o ad sc I J) (fun u : (Int32 × Int32 × Int32) × (Nat → Nat → Int32) × (Nat → Nat → Int64) => mw G o ad u.1 u.2.1 u.2.2) (fun u : (Int32 × Int32 × Int32) × (Nat → Nat → Int32) × (Nat → Nat → Int64) => some (.int (if tn < 8 ∧ isN 1 1000 e ∧ isN 0 100000 m ∧ isN 0 50000 r then nI tn else -1))) (fun u : (Int32 × Int32 × Int32) × (Nat → Nat → Int32) × (Nat → Nat → Int64) => mrep u.1 u.2.1 u.2.2 tp nx (if tn < 8 ∧ isN 1 1000 e ∧ isN 0 100000 m ∧ isN 0 50000 r then tn + 1 else tn) rn (if tn < 8 ∧ isN 1 1000 e ∧ isN 0 100000 m ∧ isN 0 50000 r then upf E tn (kN e) else E) (if tn < 8 ∧ isN 1 1000 e ∧ isN 0 100000 m ∧ isN 0 50000 r then upf R tn (kN r) else R) (if tn < 8 ∧ isN 1 1000 e ∧ isN 0 100000 m ∧ isN 0 50000 r then upf Hv tn 0 else Hv) mo co C (if tn < 8 ∧ isN 1 1000 e ∧ isN 0 100000 m ∧ isN 0 50000 r then upf T tn ((kN m, 0), (0, 0, 0, 0, 0, 0), []) else T) rd) := by
  refine Ct.of (by decide) (Nat.le_of_ble_eq_true rfl) (fun X A hX => ?_)
  subst hX
  refine V.to (lv' := [(0, .ref (o)), (1, .int (e)), (2, .int (m)), (3, .int (r))]) (st := []) (pc' := 0) rfl rfl rfl ?_
  obtain ⟨m0, m1, m2, m3, m4, m5, m6, m7, m8, m9, m10, m11, m12, m13⟩ := id hm
  obtain ⟨⟨v0, v1⟩, ⟨v2, v3⟩, ⟨v4, v5⟩, ⟨v6, v7, v8, v9⟩, ⟨v10, v11⟩, ⟨v12, v13⟩, ⟨v14, v15⟩, v16, v17⟩ := id hv
  refine V.aload_n dX8_town_0 rfl rfl ?_
  refine Mg5 rfl dX8_town_1 ?_
  refine V.ei (y := nI (tn)) m3 ?_
  refine V.bipush (v := nI (8)) dX8_town_4 rfl ?_
  refine V.icmp_eq (tgt := 45) dX8_town_6 (by decide) (fun c_1 => ?_) (fun c_1 => ?_)
  · have ht8 : tn = 8 := (nI_eq (by omega) (by omega)).mp c_1
    refine V.iconst (v := -1) dX8_town_45 (by decide) ?_
    have hacc : ¬ (tn < 8 ∧ isN 1 1000 e ∧ isN 0 100000 m ∧ isN 0 50000 r) := (fun z => by have := z.1; omega)
    exact V.iret (sc, I, J) rfl (by simp only [if_neg hacc]) (by simp only [if_neg hacc]; exact hm) rfl (by decide) (by decide) dX8_town_46
  · have hlt : tn < 8 := by
      rcases Nat.lt_or_ge tn 8 with z | z
      · exact z
      · exact absurd (by rw [show tn = 8 by omega]) c_1
    refine V.iload_n dX8_town_9 rfl rfl ?_
    refine V.i2l dX8_town_10 rfl ?_
    refine V.lconst (v := lN 1) dX8_town_11 rfl ?_
    refine V.ldc2 (v := 1000) kK_X8_146 dX8_town_12 ?_
    refine V.el (y := lN 1000) rfl ?_
    refine V.callSE (c_X8_lies _ G ((e).toInt64) (lN (1)) (lN (1000))) [] rfl (goodS kM_X8_120 kS_X8_lies kN_X8 kC_X8_lies) ds_X8_lies (by decide) (Nat.le_of_ble_eq_true rfl) dX8_town_15 (by decide) (fun u hu => ?_)
    refine V.to (lv' := [(0, .ref (o)), (1, .int (e)), (2, .int (m)), (3, .int (r))]) (st := [.int (if lN (1) ≤ (e).toInt64 ∧ (e).toInt64 ≤ lN (1000) then 1 else 0)]) (pc' := 18) rfl rfl rfl ?_
    refine V.ei (y := if isN 1 1000 e then 1 else 0) (liesI e (by omega) (by omega)) ?_
    refine V.if_eq (tgt := 45) dX8_town_18 (by decide) (fun c_2 => ?_) (fun c_2 => ?_)
    · have p1 := ite0.mp c_2
      refine V.iconst (v := -1) dX8_town_45 (by decide) ?_
      have hacc : ¬ (tn < 8 ∧ isN 1 1000 e ∧ isN 0 100000 m ∧ isN 0 50000 r) := (fun z => p1 z.2.1)
      exact V.iret (sc, I, J) rfl (by simp only [if_neg hacc]) (by simp only [if_neg hacc]; exact hm) rfl (by decide) (by decide) dX8_town_46
    · have p1 := ite1.mp c_2
      refine V.iload_n dX8_town_21 rfl rfl ?_
      refine V.i2l dX8_town_22 rfl ?_
      refine V.lconst (v := lN 0) dX8_town_23 rfl ?_
      refine V.ldc2 (v := 100000) kK_X8_148 dX8_town_24 ?_
      refine V.el (y := lN 100000) rfl ?_
      refine V.callSE (c_X8_lies _ G ((m).toInt64) (lN (0)) (lN (100000))) [] rfl (goodS kM_X8_120 kS_X8_lies kN_X8 kC_X8_lies) ds_X8_lies (by decide) (Nat.le_of_ble_eq_true rfl) dX8_town_27 (by decide) (fun u hu => ?_)
      refine V.to (lv' := [(0, .ref (o)), (1, .int (e)), (2, .int (m)), (3, .int (r))]) (st := [.int (if lN (0) ≤ (m).toInt64 ∧ (m).toInt64 ≤ lN (100000) then 1 else 0)]) (pc' := 30) rfl rfl rfl ?_
      refine V.ei (y := if isN 0 100000 m then 1 else 0) (liesI m (by omega) (by omega)) ?_
      refine V.if_eq (tgt := 45) dX8_town_30 (by decide) (fun c_3 => ?_) (fun c_3 => ?_)
      · have p2 := ite0.mp c_3
        refine V.iconst (v := -1) dX8_town_45 (by decide) ?_
        have hacc : ¬ (tn < 8 ∧ isN 1 1000 e ∧ isN 0 100000 m ∧ isN 0 50000 r) := (fun z => p2 z.2.2.1)
        exact V.iret (sc, I, J) rfl (by simp only [if_neg hacc]) (by simp only [if_neg hacc]; exact hm) rfl (by decide) (by decide) dX8_town_46
      · have p2 := ite1.mp c_3
        refine V.iload_n dX8_town_33 rfl rfl ?_
        refine V.i2l dX8_town_34 rfl ?_
        refine V.lconst (v := lN 0) dX8_town_35 rfl ?_
        refine V.ldc2 (v := 50000) kK_X8_150 dX8_town_36 ?_
        refine V.el (y := lN 50000) rfl ?_
        refine V.callSE (c_X8_lies _ G ((r).toInt64) (lN (0)) (lN (50000))) [] rfl (goodS kM_X8_120 kS_X8_lies kN_X8 kC_X8_lies) ds_X8_lies (by decide) (Nat.le_of_ble_eq_true rfl) dX8_town_39 (by decide) (fun u hu => ?_)
        refine V.to (lv' := [(0, .ref (o)), (1, .int (e)), (2, .int (m)), (3, .int (r))]) (st := [.int (if lN (0) ≤ (r).toInt64 ∧ (r).toInt64 ≤ lN (50000) then 1 else 0)]) (pc' := 42) rfl rfl rfl ?_
        refine V.ei (y := if isN 0 50000 r then 1 else 0) (liesI r (by omega) (by omega)) ?_
        refine V.if_ne (tgt := 47) dX8_town_42 (by decide) (fun c_4 => ?_) (fun c_4 => ?_)
        · have p3 := ite1.mp c_4
          refine V.aload_n dX8_town_47 rfl rfl ?_
          refine Mg7 rfl dX8_town_48 ?_
          refine V.aload_n dX8_town_51 rfl rfl ?_
          refine Mg5 rfl dX8_town_52 ?_
          refine V.ei (y := nI (tn)) m3 ?_
          refine V.iload_n dX8_town_55 rfl rfl ?_
          refine Ms7 (tn) rfl (by omega) dX8_town_56 ?_
          refine V.aload_n dX8_town_57 rfl rfl ?_
          refine Mg21 rfl dX8_town_58 ?_
          refine V.aload_n dX8_town_61 rfl rfl ?_
          refine Mg5 rfl dX8_town_62 ?_
          refine V.ei (y := nI (tn)) m3 ?_
          refine V.iload_n dX8_town_65 rfl rfl ?_
          refine V.i2l dX8_town_66 rfl ?_
          refine Ms21 (tn) rfl (by omega) dX8_town_67 ?_
          refine V.aload_n dX8_town_68 rfl rfl ?_
          refine Mg8 rfl dX8_town_69 ?_
          refine V.aload_n dX8_town_72 rfl rfl ?_
          refine Mg5 rfl dX8_town_73 ?_
          refine V.ei (y := nI (tn)) m3 ?_
          refine V.iload_n dX8_town_76 rfl rfl ?_
          refine Ms8 (tn) rfl (by omega) dX8_town_77 ?_
          refine V.aload_n dX8_town_78 rfl rfl ?_
          refine Mg9 rfl dX8_town_79 ?_
          refine V.aload_n dX8_town_82 rfl rfl ?_
          refine Mg5 rfl dX8_town_83 ?_
          refine V.ei (y := nI (tn)) m3 ?_
          refine V.iconst (v := -1) dX8_town_86 (by decide) ?_
          refine Ms9 (tn) rfl (by omega) dX8_town_87 ?_
          refine V.aload_n dX8_town_88 rfl rfl ?_
          refine V.dup dX8_town_89 rfl ?_
          refine Mg5 rfl dX8_town_90 ?_
          refine V.ei (y := nI (tn)) m3 ?_
          refine V.iconst (v := nI (1)) dX8_town_93 rfl ?_
          refine V.iadd dX8_town_94 ?_
          refine V.ei (nI_add _ _) ?_
          refine Mp5 rfl dX8_town_95 ?_
          refine V.aload_n dX8_town_98 rfl rfl ?_
          refine Mg5 rfl dX8_town_99 ?_
          refine V.ei (y := nI ((tn) + (1))) rfl ?_
          refine V.iconst (v := nI (1)) dX8_town_102 rfl ?_
          refine V.isub dX8_town_103 ?_
          refine V.ei (y := nI (tn + 1 - 1)) (pk_sub (by omega)) ?_
          have hacc : tn < 8 ∧ isN 1 1000 e ∧ isN 0 100000 m ∧ isN 0 50000 r := ⟨hlt, p1, p2, p3⟩
          exact V.iret ((sc.1, nI (tn + 1), sc.2.2), (up2 (up2 (up2 I 7 (tn) (e)) 8 (tn) (r)) 9 (tn) (-1)), (up2 J 21 (tn) ((m).toInt64))) rfl (by simp only [if_pos hacc]; rfl) (by simp only [if_pos hacc]; exact town_new hm hv hlt p1.k.1 p2.k.1 p2.k.2.2 p3.k.1) rfl (by decide) (by decide) dX8_town_104
        · have p3 := ite0.mp c_4
          refine V.iconst (v := -1) dX8_town_45 (by decide) ?_
          have hacc : ¬ (tn < 8 ∧ isN 1 1000 e ∧ isN 0 100000 m ∧ isN 0 50000 r) := (fun z => p3 z.2.2.2)
          exact V.iret (sc, I, J) rfl (by simp only [if_neg hacc]) (by simp only [if_neg hacc]; exact hm) rfl (by decide) (by decide) dX8_town_46
set_option maxHeartbeats 4000000 in
set_option maxRecDepth 20000 in
theorem c_X8_road (l : Launch) (G : GG) (o : Nat) (ad : Nat → Nat) (sc : Int32 × Int32 × Int32) (I : Nat → Nat → Int32) (J : Nat → Nat → Int64) (B : Nat) (tp : List Nat) (nx : Nat → Nat) (tn rn : Nat) (E R Hv : Nat → Nat) (mo co : Nat) (C : List Cr) (T : Nat → ST) (rd : Nat → Rd) (hm : mrep sc I J tp nx tn rn E R Hv mo co C T rd) (hv : sinv B tp nx tn rn E R Hv mo co C T rd) (hB : B ≤ 2 ^ 47) (a b w k : Int32) : Ct l G yX8_road cX8_road 5 (some .int) rm_X8_road [.ref (o), .int (a), .int (b), .int (w), .int (k)] (mw G o ad sc I J) (fun u : (Int32 × Int32 × Int32) × (Nat → Nat → Int32) × (Nat → Nat → Int64) => mw G o ad u.1 u.2.1 u.2.2) (fun u : (Int32 × Int32 × Int32) × (Nat → Nat → Int32) × (Nat → Nat → Int64) => some (.int (if rn < 12 ∧ isT tn a ∧ isT tn b ∧ a ≠ b ∧ isN 1 6 w ∧ isN 1 10000 k then nI rn else -1))) (fun u : (Int32 × Int32 × Int32) × (Nat → Nat → Int32) × (Nat → Nat → Int64) => mrep u.1 u.2.1 u.2.2 tp nx tn (if rn < 12 ∧ isT tn a ∧ isT tn b ∧ a ≠ b ∧ isN 1 6 w ∧ isN 1 10000 k then rn + 1 else rn) E R Hv mo co C T (if rn < 12 ∧ isT tn a ∧ isT tn b ∧ a ≠ b ∧ isN 1 6 w ∧ isN 1 10000 k then upf rd rn (kN a, kN b, kN w, kN k, 0) else rd)) := by
  refine Ct.of (by decide) (Nat.le_of_ble_eq_true rfl) (fun X A hX => ?_)
  subst hX
  refine V.to (lv' := [(0, .ref (o)), (1, .int (a)), (2, .int (b)), (3, .int (w)), (4, .int (k))]) (st := []) (pc' := 0) rfl rfl rfl ?_
  obtain ⟨m0, m1, m2, m3, m4, m5, m6, m7, m8, m9, m10, m11, m12, m13⟩ := id hm
  obtain ⟨⟨v0, v1⟩, ⟨v2, v3⟩, ⟨v4, v5⟩, ⟨v6, v7, v8, v9⟩, ⟨v10, v11⟩, ⟨v12, v13⟩, ⟨v14, v15⟩, v16, v17⟩ := id hv
  refine V.aload_n dX8_road_0 rfl rfl ?_
  refine Mg6 rfl dX8_road_1 ?_
  refine V.ei (y := nI (rn)) m4 ?_
  refine V.bipush (v := nI (12)) dX8_road_4 rfl ?_
  refine V.icmp_eq (tgt := 55) dX8_road_6 (by decide) (fun c_1 => ?_) (fun c_1 => ?_)
  · have ht8 : rn = 12 := (nI_eq (by omega) (by omega)).mp c_1
    refine V.iconst (v := -1) dX8_road_55 (by decide) ?_
    have hacc : ¬ (rn < 12 ∧ isT tn a ∧ isT tn b ∧ a ≠ b ∧ isN 1 6 w ∧ isN 1 10000 k) := (fun z => by have := z.1; omega)
    exact V.iret (sc, I, J) rfl (by simp only [if_neg hacc]) (by simp only [if_neg hacc]; exact hm) rfl (by decide) (by decide) dX8_road_56
  · have hlt : rn < 12 := by
      rcases Nat.lt_or_ge rn 12 with z | z
      · exact z
      · exact absurd (by rw [show rn = 12 by omega]) c_1
    refine V.aload_n dX8_road_9 rfl rfl ?_
    refine V.iload_n dX8_road_10 rfl rfl ?_
    refine V.callV0 (c_X8_isTown _ G o ad sc I J tn a m3 v4) [] 0 9 rfl rfl rfl rfl (goodV kM_X8_155 kI_X8_isTown kV_X8_isTown kN_X8 kC_X8_isTown) ds_X8_isTown (by decide) (Nat.le_of_ble_eq_true rfl) dX8_road_11 (by decide) (fun u hu => ?_)
    refine V.to (lv' := [(0, .ref (o)), (1, .int (a)), (2, .int (b)), (3, .int (w)), (4, .int (k))]) (st := [.int (if isT tn a then 1 else 0)]) (pc' := 14) rfl rfl rfl ?_
    refine V.if_eq (tgt := 55) dX8_road_14 (by decide) (fun c_2 => ?_) (fun c_2 => ?_)
    · have p1 := ite0.mp c_2
      refine V.iconst (v := -1) dX8_road_55 (by decide) ?_
      have hacc : ¬ (rn < 12 ∧ isT tn a ∧ isT tn b ∧ a ≠ b ∧ isN 1 6 w ∧ isN 1 10000 k) := (fun z => p1 z.2.1)
      exact V.iret (sc, I, J) rfl (by simp only [if_neg hacc]) (by simp only [if_neg hacc]; exact hm) rfl (by decide) (by decide) dX8_road_56
    · have p1 := ite1.mp c_2
      refine V.aload_n dX8_road_17 rfl rfl ?_
      refine V.iload_n dX8_road_18 rfl rfl ?_
      refine V.callV0 (c_X8_isTown _ G o ad sc I J tn b m3 v4) [] 0 9 rfl rfl rfl rfl (goodV kM_X8_155 kI_X8_isTown kV_X8_isTown kN_X8 kC_X8_isTown) ds_X8_isTown (by decide) (Nat.le_of_ble_eq_true rfl) dX8_road_19 (by decide) (fun u hu => ?_)
      refine V.to (lv' := [(0, .ref (o)), (1, .int (a)), (2, .int (b)), (3, .int (w)), (4, .int (k))]) (st := [.int (if isT tn b then 1 else 0)]) (pc' := 22) rfl rfl rfl ?_
      refine V.if_eq (tgt := 55) dX8_road_22 (by decide) (fun c_3 => ?_) (fun c_3 => ?_)
      · have p2 := ite0.mp c_3
        refine V.iconst (v := -1) dX8_road_55 (by decide) ?_
        have hacc : ¬ (rn < 12 ∧ isT tn a ∧ isT tn b ∧ a ≠ b ∧ isN 1 6 w ∧ isN 1 10000 k) := (fun z => p2 z.2.2.1)
        exact V.iret (sc, I, J) rfl (by simp only [if_neg hacc]) (by simp only [if_neg hacc]; exact hm) rfl (by decide) (by decide) dX8_road_56
      · have p2 := ite1.mp c_3
        refine V.iload_n dX8_road_25 rfl rfl ?_
        refine V.iload_n dX8_road_26 rfl rfl ?_
        refine V.icmp_eq (tgt := 55) dX8_road_27 (by decide) (fun c_4 => ?_) (fun c_4 => ?_)
        · have pab := c_4
          refine V.iconst (v := -1) dX8_road_55 (by decide) ?_
          have hacc : ¬ (rn < 12 ∧ isT tn a ∧ isT tn b ∧ a ≠ b ∧ isN 1 6 w ∧ isN 1 10000 k) := (fun z => z.2.2.2.1 pab)
          exact V.iret (sc, I, J) rfl (by simp only [if_neg hacc]) (by simp only [if_neg hacc]; exact hm) rfl (by decide) (by decide) dX8_road_56
        · have pab := c_4
          refine V.iload_n dX8_road_30 rfl rfl ?_
          refine V.i2l dX8_road_31 rfl ?_
          refine V.lconst (v := lN 1) dX8_road_32 rfl ?_
          refine V.ldc2 (v := 6) kK_X8_159 dX8_road_33 ?_
          refine V.el (y := lN 6) rfl ?_
          refine V.callSE (c_X8_lies _ G ((w).toInt64) (lN (1)) (lN (6))) [] rfl (goodS kM_X8_120 kS_X8_lies kN_X8 kC_X8_lies) ds_X8_lies (by decide) (Nat.le_of_ble_eq_true rfl) dX8_road_36 (by decide) (fun u hu => ?_)
          refine V.to (lv' := [(0, .ref (o)), (1, .int (a)), (2, .int (b)), (3, .int (w)), (4, .int (k))]) (st := [.int (if lN (1) ≤ (w).toInt64 ∧ (w).toInt64 ≤ lN (6) then 1 else 0)]) (pc' := 39) rfl rfl rfl ?_
          refine V.ei (y := if isN 1 6 w then 1 else 0) (liesI w (by omega) (by omega)) ?_
          refine V.if_eq (tgt := 55) dX8_road_39 (by decide) (fun c_5 => ?_) (fun c_5 => ?_)
          · have p3 := ite0.mp c_5
            refine V.iconst (v := -1) dX8_road_55 (by decide) ?_
            have hacc : ¬ (rn < 12 ∧ isT tn a ∧ isT tn b ∧ a ≠ b ∧ isN 1 6 w ∧ isN 1 10000 k) := (fun z => p3 z.2.2.2.2.1)
            exact V.iret (sc, I, J) rfl (by simp only [if_neg hacc]) (by simp only [if_neg hacc]; exact hm) rfl (by decide) (by decide) dX8_road_56
          · have p3 := ite1.mp c_5
            refine V.iload dX8_road_42 rfl ?_
            refine V.i2l dX8_road_44 rfl ?_
            refine V.lconst (v := lN 1) dX8_road_45 rfl ?_
            refine V.ldc2 (v := 10000) kK_X8_161 dX8_road_46 ?_
            refine V.el (y := lN 10000) rfl ?_
            refine V.callSE (c_X8_lies _ G ((k).toInt64) (lN (1)) (lN (10000))) [] rfl (goodS kM_X8_120 kS_X8_lies kN_X8 kC_X8_lies) ds_X8_lies (by decide) (Nat.le_of_ble_eq_true rfl) dX8_road_49 (by decide) (fun u hu => ?_)
            refine V.to (lv' := [(0, .ref (o)), (1, .int (a)), (2, .int (b)), (3, .int (w)), (4, .int (k))]) (st := [.int (if lN (1) ≤ (k).toInt64 ∧ (k).toInt64 ≤ lN (10000) then 1 else 0)]) (pc' := 52) rfl rfl rfl ?_
            refine V.ei (y := if isN 1 10000 k then 1 else 0) (liesI k (by omega) (by omega)) ?_
            refine V.if_ne (tgt := 57) dX8_road_52 (by decide) (fun c_6 => ?_) (fun c_6 => ?_)
            · have p4 := ite1.mp c_6
              refine V.aload_n dX8_road_57 rfl rfl ?_
              refine Mg10 rfl dX8_road_58 ?_
              refine V.aload_n dX8_road_61 rfl rfl ?_
              refine Mg6 rfl dX8_road_62 ?_
              refine V.ei (y := nI (rn)) m4 ?_
              refine V.iload_n dX8_road_65 rfl rfl ?_
              refine Ms10 (rn) rfl (by omega) dX8_road_66 ?_
              refine V.aload_n dX8_road_67 rfl rfl ?_
              refine Mg11 rfl dX8_road_68 ?_
              refine V.aload_n dX8_road_71 rfl rfl ?_
              refine Mg6 rfl dX8_road_72 ?_
              refine V.ei (y := nI (rn)) m4 ?_
              refine V.iload_n dX8_road_75 rfl rfl ?_
              refine Ms11 (rn) rfl (by omega) dX8_road_76 ?_
              refine V.aload_n dX8_road_77 rfl rfl ?_
              refine Mg12 rfl dX8_road_78 ?_
              refine V.aload_n dX8_road_81 rfl rfl ?_
              refine Mg6 rfl dX8_road_82 ?_
              refine V.ei (y := nI (rn)) m4 ?_
              refine V.iload_n dX8_road_85 rfl rfl ?_
              refine Ms12 (rn) rfl (by omega) dX8_road_86 ?_
              refine V.aload_n dX8_road_87 rfl rfl ?_
              refine Mg13 rfl dX8_road_88 ?_
              refine V.aload_n dX8_road_91 rfl rfl ?_
              refine Mg6 rfl dX8_road_92 ?_
              refine V.ei (y := nI (rn)) m4 ?_
              refine V.iload dX8_road_95 rfl ?_
              refine Ms13 (rn) rfl (by omega) dX8_road_97 ?_
              refine V.aload_n dX8_road_98 rfl rfl ?_
              refine V.dup dX8_road_99 rfl ?_
              refine Mg6 rfl dX8_road_100 ?_
              refine V.ei (y := nI (rn)) m4 ?_
              refine V.iconst (v := nI (1)) dX8_road_103 rfl ?_
              refine V.iadd dX8_road_104 ?_
              refine V.ei (nI_add _ _) ?_
              refine Mp6 rfl dX8_road_105 ?_
              refine V.aload_n dX8_road_108 rfl rfl ?_
              refine Mg6 rfl dX8_road_109 ?_
              refine V.ei (y := nI ((rn) + (1))) rfl ?_
              refine V.iconst (v := nI (1)) dX8_road_112 rfl ?_
              refine V.isub dX8_road_113 ?_
              refine V.ei (y := nI (rn + 1 - 1)) (pk_sub (by omega)) ?_
              have hacc : rn < 12 ∧ isT tn a ∧ isT tn b ∧ a ≠ b ∧ isN 1 6 w ∧ isN 1 10000 k := ⟨hlt, p1, p2, pab, p3, p4⟩
              exact V.iret ((sc.1, sc.2.1, nI (rn + 1)), (up2 (up2 (up2 (up2 I 10 (rn) (a)) 11 (rn) (b)) 12 (rn) (w)) 13 (rn) (k)), J) rfl (by simp only [if_pos hacc]; rfl) (by simp only [if_pos hacc]; exact road_new hm hv hlt p1.k.1 p2.k.1 p3.k.1 p4.k.1) rfl (by decide) (by decide) dX8_road_114
            · have p4 := ite0.mp c_6
              refine V.iconst (v := -1) dX8_road_55 (by decide) ?_
              have hacc : ¬ (rn < 12 ∧ isT tn a ∧ isT tn b ∧ a ≠ b ∧ isN 1 6 w ∧ isN 1 10000 k) := (fun z => p4 z.2.2.2.2.2)
              exact V.iret (sc, I, J) rfl (by simp only [if_neg hacc]) (by simp only [if_neg hacc]; exact hm) rfl (by decide) (by decide) dX8_road_56
