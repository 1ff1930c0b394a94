set_option maxHeartbeats 4000000 in
set_option maxRecDepth 20000 in
theorem c_X8_lies (l : Launch) (G : GG) (v a b : Int64) : Ct l G yX8_lies cX8_lies 6 (some .boolean) rm_X8_lies [.long (v), .long (a), .long (b)] [] (fun u : Unit => []) (fun u : Unit => some (.int (if a ≤ v ∧ v ≤ b then 1 else 0))) (fun u : Unit => True) := by
  refine Ct.of (by decide) (Nat.le_of_ble_eq_true rfl) (fun X A hX => ?_)
  subst hX
  refine V.to (lv' := [(0, .long (v)), (2, .long (a)), (4, .long (b))]) (st := []) (pc' := 0) rfl rfl rfl ?_
  refine V.lload_n dX8_lies_0 rfl rfl ?_
  refine V.lload_n dX8_lies_1 rfl rfl ?_
  refine V.lc_lt (tgt := 17) dX8_lies_2 dX8_lies_3 (by decide) (fun c_1 => ?_) (fun c_1 => ?_)
  · refine V.iconst (v := nI (0)) dX8_lies_17 rfl ?_
    exact V.zret () rfl rfl (by rw [if_neg (fun h => Int64.not_lt.mpr h.1 c_1)]; rfl) trivial rfl (by decide) (by decide) dX8_lies_18
  · refine V.lload_n dX8_lies_6 rfl rfl ?_
    refine V.lload dX8_lies_7 rfl ?_
    refine V.lc_gt (tgt := 17) dX8_lies_9 dX8_lies_10 (by decide) (fun c_2 => ?_) (fun c_2 => ?_)
    · refine V.iconst (v := nI (0)) dX8_lies_17 rfl ?_
      exact V.zret () rfl rfl (by rw [if_neg (fun h => Int64.not_lt.mpr h.2 c_2)]; rfl) trivial rfl (by decide) (by decide) dX8_lies_18
    · refine V.iconst (v := nI (1)) dX8_lies_13 rfl ?_
      refine V.goto (tgt := 18) dX8_lies_14 (by decide) ?_
      exact V.zret () rfl rfl (by rw [if_pos ⟨Int64.not_lt.mp c_1, Int64.not_lt.mp c_2⟩]; rfl) trivial rfl (by decide) (by decide) dX8_lies_18
set_option maxHeartbeats 4000000 in
set_option maxRecDepth 20000 in
theorem c_X8_least (l : Launch) (G : GG) (a b : Int64) : Ct l G yX8_least cX8_least 4 (some .long) rm_X8_least [.long (a), .long (b)] [] (fun u : Unit => []) (fun u : Unit => some (.long (if a < b then a else b))) (fun u : Unit => True) := by
  refine Ct.of (by decide) (Nat.le_of_ble_eq_true rfl) (fun X A hX => ?_)
  subst hX
  refine V.to (lv' := [(0, .long (a)), (2, .long (b))]) (st := []) (pc' := 0) rfl rfl rfl ?_
  refine V.lload_n dX8_least_0 rfl rfl ?_
  refine V.lload_n dX8_least_1 rfl rfl ?_
  refine V.lc_ge (tgt := 10) dX8_least_2 dX8_least_3 (by decide) (fun c_1 => ?_) (fun c_1 => ?_)
  · have c_1 := Int64.not_lt.mpr c_1
    refine V.lload_n dX8_least_10 rfl rfl ?_
    exact V.lret () rfl (by rw [if_neg c_1]) trivial rfl (by decide) (by decide) dX8_least_11
  · have c_1 := Int64.not_le.mp c_1
    refine V.lload_n dX8_least_6 rfl rfl ?_
    refine V.goto (tgt := 11) dX8_least_7 (by decide) ?_
    exact V.lret () rfl (by rw [if_pos c_1]) trivial rfl (by decide) (by decide) dX8_least_11
set_option maxHeartbeats 4000000 in
set_option maxRecDepth 20000 in
theorem c_X8_trueIn (l : Launch) (G : GG) (o : Nat) (ad : Nat → Nat) (sc : Int32 × Int32 × Int32) (I : Nat → Nat → Int32) (J : Nat → Nat → Int64) (x : Nat) (L : List Lt) (hx : x < 16) (hL : rowR I x L) (ok : okL L) : Ct l G yX8_trueIn cX8_trueIn 5 (some .long) rm_X8_trueIn [.ref (o), .int (nI (x))] (mw G o ad sc I J) (fun u : Unit => (mw G o ad sc I J)) (fun u : Unit => some (.long (lN (tsum L)))) (fun u : Unit => True) := by
  refine Ct.of (by decide) (Nat.le_of_ble_eq_true rfl) (fun X A hX => ?_)
  subst hX
  refine V.to (lv' := [(0, .ref (o)), (1, .int (nI (x)))]) (st := []) (pc' := 0) rfl rfl rfl ?_
  have loop : ∀ (d : Nat) (i : Nat) (s : Int64), L.length - i < d → i ≤ L.length → s = lN (tsum (L.take i)) → V G X yX8_trueIn cX8_trueIn 5 (some .long) rm_X8_trueIn A (MZ G X rm_X8_trueIn A (fun u : Unit => (mw G o ad sc I J)) (fun u : Unit => some (.long (lN (tsum L)))) (fun u : Unit => True)) 0 0 (mw G o ad sc I J) [(4, .int (nI (i))), (2, .long (s)), (0, .ref (o)), (1, .int (nI (x)))] 5 [] := by
    intro d
    induction d with
    | zero => intro i s hd; exact absurd hd (Nat.not_lt_zero _)
    | succ d ih =>
      intro i s hd hi hs
      have hn := ok.1
      refine V.iload dX8_trueIn_5 rfl ?_
      refine V.aload_n dX8_trueIn_7 rfl rfl ?_
      refine Mg22 rfl dX8_trueIn_8 ?_
      refine V.iload_n dX8_trueIn_11 rfl rfl ?_
      refine Ml22 (x) rfl (by omega) dX8_trueIn_12 ?_
      refine V.ei (y := nI (L.length)) hL.1 ?_
      refine V.icmp_ge (tgt := 38) dX8_trueIn_13 (by decide) (fun c_1 => ?_) (fun c_1 => ?_)
      · have hc := (nI_leI (by omega) (by omega)).mp c_1
        have he : i = L.length := by omega
        subst he
        rw [List.take_length] at hs
        subst hs
        refine V.lload_n dX8_trueIn_38 rfl rfl ?_
        exact V.lret () rfl rfl trivial rfl (by decide) (by decide) dX8_trueIn_39
      · have hc : i < L.length := Nat.lt_of_not_le (fun h => c_1 (nI_le h (by omega)))
        obtain ⟨l, hl⟩ := get_lt hc
        have hm := tsum_mem (List.mem_of_getElem? hl)
        have ht := ok.2.1
        refine V.lload_n dX8_trueIn_16 rfl rfl ?_
        refine V.aload_n dX8_trueIn_17 rfl rfl ?_
        refine Mg32 rfl dX8_trueIn_18 ?_
        refine V.bipush (v := nI (40)) dX8_trueIn_21 rfl ?_
        refine V.iload_n dX8_trueIn_23 rfl rfl ?_
        refine V.imul dX8_trueIn_24 ?_
        refine V.ei (pk_mul _ _) ?_
        refine V.iload dX8_trueIn_25 rfl ?_
        refine V.iadd dX8_trueIn_27 ?_
        refine V.ei (nI_add _ _) ?_
        refine Ml32 (((40) * (x)) + (i)) rfl (by omega) dX8_trueIn_28 ?_
        refine V.ei (y := nI (l.2.2.1)) (hL.2 i l hl).2.2.1 ?_
        refine V.i2l (v := lN (l.2.2.1)) dX8_trueIn_29 (nI_l (by omega)) ?_
        refine V.ladd dX8_trueIn_30 ?_
        refine V.lstore_n (lv' := [(2, .long ((s) + (lN (l.2.2.1)))), (4, .int (nI (i))), (0, .ref (o)), (1, .int (nI (x)))]) dX8_trueIn_31 rfl (by decide) rfl ?_
        refine V.iinc (k := 1) (v := nI (i + 1)) (lv' := [(4, .int (nI (i + 1))), (2, .long ((s) + (lN (l.2.2.1)))), (0, .ref (o)), (1, .int (nI (x)))]) dX8_trueIn_32 rfl (iinc1 _) (by decide) rfl ?_
        refine V.goto (tgt := 5) dX8_trueIn_35 (by decide) ?_
        refine V.pick [0, 1, 2, 3] (lv' := [(4, .int (nI (i + 1))), (2, .long ((s) + (lN (l.2.2.1)))), (0, .ref (o)), (1, .int (nI (x)))]) rfl ?_; exact ih (i + 1) _ (by omega) (by omega) (by rw [tsum_take hl, hs, lN_add])
  refine V.lconst (v := lN 0) dX8_trueIn_0 rfl ?_
  refine V.lstore_n (lv' := [(2, .long (lN (0))), (0, .ref (o)), (1, .int (nI (x)))]) dX8_trueIn_1 rfl (by decide) rfl ?_
  refine V.iconst (v := nI (0)) dX8_trueIn_2 rfl ?_
  refine V.istore (lv' := [(4, .int (nI (0))), (2, .long (lN (0))), (0, .ref (o)), (1, .int (nI (x)))]) dX8_trueIn_3 (by decide) rfl ?_
  refine V.pick [0, 1, 2, 3] (lv' := [(4, .int (nI (0))), (2, .long (lN (0))), (0, .ref (o)), (1, .int (nI (x)))]) rfl ?_; exact loop (L.length + 1) 0 _ (by omega) (by omega) (by simp [tsum])
set_option maxHeartbeats 4000000 in
set_option maxRecDepth 20000 in
theorem c_X8_bookIn (l : Launch) (G : GG) (o : Nat) (ad : Nat → Nat) (sc : Int32 × Int32 × Int32) (I : Nat → Nat → Int32) (J : Nat → Nat → Int64) (x : Nat) (al : Bool) (L : List Lt) (hx : x < 8) (hL : rowR I x L) (hn : L.length ≤ 40) : Ct l G yX8_bookIn cX8_bookIn 6 (some .long) rm_X8_bookIn [.ref (o), .int (nI (x)), .int (bI al)] (mw G o ad sc I J) (fun u : Unit => (mw G o ad sc I J)) (fun u : Unit => some (.long (bsum al L))) (fun u : Unit => True) := by
  refine Ct.of (by decide) (Nat.le_of_ble_eq_true rfl) (fun X A hX => ?_)
  subst hX
  refine V.to (lv' := [(0, .ref (o)), (1, .int (nI (x))), (2, .int (bI al))]) (st := []) (pc' := 0) rfl rfl rfl ?_
  have loop : ∀ (d : Nat) (i : Nat) (s : Int64), L.length - i < d → i ≤ L.length → s = bsum al (L.take i) → V G X yX8_bookIn cX8_bookIn 6 (some .long) rm_X8_bookIn A (MZ G X rm_X8_bookIn A (fun u : Unit => (mw G o ad sc I J)) (fun u : Unit => some (.long (bsum al L))) (fun u : Unit => True)) 0 0 (mw G o ad sc I J) [(5, .int (nI (i))), (3, .long (s)), (0, .ref (o)), (1, .int (nI (x))), (2, .int (bI al))] 5 [] := by
    intro d
    induction d with
    | zero => intro i s hd; exact absurd hd (Nat.not_lt_zero _)
    | succ d ih =>
      intro i s hd hi hs
      refine V.iload dX8_bookIn_5 rfl ?_
      refine V.aload_n dX8_bookIn_7 rfl rfl ?_
      refine Mg22 rfl dX8_bookIn_8 ?_
      refine V.iload_n dX8_bookIn_11 rfl rfl ?_
      refine Ml22 (x) rfl (by omega) dX8_bookIn_12 ?_
      refine V.ei (y := nI (L.length)) hL.1 ?_
      refine V.icmp_ge (tgt := 61) dX8_bookIn_13 (by decide) (fun c_1 => ?_) (fun c_1 => ?_)
      · have hc := (nI_leI (by omega) (by omega)).mp c_1
        have he : i = L.length := by omega
        subst he
        rw [List.take_length] at hs
        subst hs
        refine V.lload_n dX8_bookIn_61 rfl rfl ?_
        exact V.lret () rfl rfl trivial rfl (by decide) (by decide) dX8_bookIn_62
      · have hc : i < L.length := Nat.lt_of_not_le (fun h => c_1 (nI_le h (by omega)))
        obtain ⟨l, hl⟩ := get_lt hc
        refine V.lload_n dX8_bookIn_16 rfl rfl ?_
        refine V.iload_n dX8_bookIn_17 rfl rfl ?_
        refine V.if_ne (tgt := 36) dX8_bookIn_18 (by decide) (fun c_2 => ?_) (fun c_2 => ?_)
        · have hq : (al || !l.2.2.2) = true := by cases al <;> simp_all [bI]
          refine V.aload_n dX8_bookIn_36 rfl rfl ?_
          refine Mg31 rfl dX8_bookIn_37 ?_
          refine V.bipush (v := nI (40)) dX8_bookIn_40 rfl ?_
          refine V.iload_n dX8_bookIn_42 rfl rfl ?_
          refine V.imul dX8_bookIn_43 ?_
          refine V.ei (pk_mul _ _) ?_
          refine V.iload dX8_bookIn_44 rfl ?_
          refine V.iadd dX8_bookIn_46 ?_
          refine V.ei (nI_add _ _) ?_
          refine Ml31 (((40) * (x)) + (i)) rfl (by omega) dX8_bookIn_47 ?_
          refine V.ei (y := l.2.1) (hL.2 i l hl).2.1 ?_
          refine V.i2l dX8_bookIn_48 rfl ?_
          refine V.goto (tgt := 53) dX8_bookIn_49 (by decide) ?_
          refine V.ladd dX8_bookIn_53 ?_
          refine V.lstore_n (lv' := [(3, .long ((s) + ((l.2.1).toInt64))), (5, .int (nI (i))), (0, .ref (o)), (1, .int (nI (x))), (2, .int (bI al))]) dX8_bookIn_54 rfl (by decide) rfl ?_
          refine V.iinc (k := 1) (v := nI (i + 1)) (lv' := [(5, .int (nI (i + 1))), (3, .long ((s) + ((l.2.1).toInt64))), (0, .ref (o)), (1, .int (nI (x))), (2, .int (bI al))]) dX8_bookIn_55 rfl (iinc1 _) (by decide) rfl ?_
          refine V.goto (tgt := 5) dX8_bookIn_58 (by decide) ?_
          refine V.pick [0, 1, 2, 3, 4] (lv' := [(5, .int (nI (i + 1))), (3, .long ((s) + ((l.2.1).toInt64))), (0, .ref (o)), (1, .int (nI (x))), (2, .int (bI al))]) rfl ?_; exact ih (i + 1) _ (by omega) (by omega) (by rw [bsum_take hl, hs, hq]; rfl)
        · refine V.aload_n dX8_bookIn_21 rfl rfl ?_
          refine Mg33 rfl dX8_bookIn_22 ?_
          refine V.bipush (v := nI (40)) dX8_bookIn_25 rfl ?_
          refine V.iload_n dX8_bookIn_27 rfl rfl ?_
          refine V.imul dX8_bookIn_28 ?_
          refine V.ei (pk_mul _ _) ?_
          refine V.iload dX8_bookIn_29 rfl ?_
          refine V.iadd dX8_bookIn_31 ?_
          refine V.ei (nI_add _ _) ?_
          refine Ml33 (((40) * (x)) + (i)) rfl (by omega) dX8_bookIn_32 ?_
          refine V.ei (y := bI l.2.2.2) ((hL.2 i l hl).2.2.2 (by omega)) ?_
          refine V.if_ne (tgt := 52) dX8_bookIn_33 (by decide) (fun c_3 => ?_) (fun c_3 => ?_)
          · have hq : (al || !l.2.2.2) = false := by cases al <;> cases hb : l.2.2.2 <;> simp_all [bI]
            refine V.lconst (v := lN 0) dX8_bookIn_52 rfl ?_
            refine V.ladd dX8_bookIn_53 ?_
            refine V.lstore_n (lv' := [(3, .long ((s) + (lN (0)))), (5, .int (nI (i))), (0, .ref (o)), (1, .int (nI (x))), (2, .int (bI al))]) dX8_bookIn_54 rfl (by decide) rfl ?_
            refine V.iinc (k := 1) (v := nI (i + 1)) (lv' := [(5, .int (nI (i + 1))), (3, .long ((s) + (lN (0)))), (0, .ref (o)), (1, .int (nI (x))), (2, .int (bI al))]) dX8_bookIn_55 rfl (iinc1 _) (by decide) rfl ?_
            refine V.goto (tgt := 5) dX8_bookIn_58 (by decide) ?_
            refine V.pick [0, 1, 2, 3, 4] (lv' := [(5, .int (nI (i + 1))), (3, .long ((s) + (lN (0)))), (0, .ref (o)), (1, .int (nI (x))), (2, .int (bI al))]) rfl ?_; exact ih (i + 1) _ (by omega) (by omega) (by rw [bsum_take hl, hs, hq]; rfl)
          · have hq : (al || !l.2.2.2) = true := by cases al <;> cases hb : l.2.2.2 <;> simp_all [bI]
            refine V.aload_n dX8_bookIn_36 rfl rfl ?_
            refine Mg31 rfl dX8_bookIn_37 ?_
            refine V.bipush (v := nI (40)) dX8_bookIn_40 rfl ?_
            refine V.iload_n dX8_bookIn_42 rfl rfl ?_
            refine V.imul dX8_bookIn_43 ?_
            refine V.ei (pk_mul _ _) ?_
            refine V.iload dX8_bookIn_44 rfl ?_
            refine V.iadd dX8_bookIn_46 ?_
            refine V.ei (nI_add _ _) ?_
            refine Ml31 (((40) * (x)) + (i)) rfl (by omega) dX8_bookIn_47 ?_
            refine V.ei (y := l.2.1) (hL.2 i l hl).2.1 ?_
            refine V.i2l dX8_bookIn_48 rfl ?_
            refine V.goto (tgt := 53) dX8_bookIn_49 (by decide) ?_
            refine V.ladd dX8_bookIn_53 ?_
            refine V.lstore_n (lv' := [(3, .long ((s) + ((l.2.1).toInt64))), (5, .int (nI (i))), (0, .ref (o)), (1, .int (nI (x))), (2, .int (bI al))]) dX8_bookIn_54 rfl (by decide) rfl ?_
            refine V.iinc (k := 1) (v := nI (i + 1)) (lv' := [(5, .int (nI (i + 1))), (3, .long ((s) + ((l.2.1).toInt64))), (0, .ref (o)), (1, .int (nI (x))), (2, .int (bI al))]) dX8_bookIn_55 rfl (iinc1 _) (by decide) rfl ?_
            refine V.goto (tgt := 5) dX8_bookIn_58 (by decide) ?_
            refine V.pick [0, 1, 2, 3, 4] (lv' := [(5, .int (nI (i + 1))), (3, .long ((s) + ((l.2.1).toInt64))), (0, .ref (o)), (1, .int (nI (x))), (2, .int (bI al))]) rfl ?_; exact ih (i + 1) _ (by omega) (by omega) (by rw [bsum_take hl, hs, hq]; rfl)
  refine V.lconst (v := lN 0) dX8_bookIn_0 rfl ?_
  refine V.lstore_n (lv' := [(3, .long (lN (0))), (0, .ref (o)), (1, .int (nI (x))), (2, .int (bI al))]) dX8_bookIn_1 rfl (by decide) rfl ?_
  refine V.iconst (v := nI (0)) dX8_bookIn_2 rfl ?_
  refine V.istore (lv' := [(5, .int (nI (0))), (3, .long (lN (0))), (0, .ref (o)), (1, .int (nI (x))), (2, .int (bI al))]) dX8_bookIn_3 (by decide) rfl ?_
  refine V.pick [0, 1, 2, 3, 4] (lv' := [(5, .int (nI (0))), (3, .long (lN (0))), (0, .ref (o)), (1, .int (nI (x))), (2, .int (bI al))]) rfl ?_; exact loop (L.length + 1) 0 _ (by omega) (by omega) (by simp [bsum]; rfl)
set_option maxHeartbeats 4000000 in
set_option maxRecDepth 20000 in
theorem c_X8_goes (l : Launch) (G : GG) (o : Nat) (ad : Nat → Nat) (sc : Int32 × Int32 × Int32) (I : Nat → Nat → Int32) (J : Nat → Nat → Int64) (x i : Nat) (L : List Lt) (l0 : Lt) (hx : x < 16) (hL : rowR I x L) (hn : L.length ≤ 40) (h0 : L[i]? = some l0) : Ct l G yX8_goes cX8_goes 4 none rm_X8_goes [.ref (o), .int (nI (x)), .int (nI (i))] (mw G o ad sc I J) (fun u : Nat → Nat → Int32 => mw G o ad sc u (up2 J 23 x (J 23 x + l0.2.1.toInt64))) (fun u : Nat → Nat → Int32 => none) (fun u : Nat → Nat → Int32 => rowR u x (L.eraseIdx i) ∧ fr (pS x) I u) := by
  refine Ct.of (by decide) (Nat.le_of_ble_eq_true rfl) (fun X A hX => ?_)
  subst hX
  refine V.to (lv' := [(0, .ref (o)), (1, .int (nI (x))), (2, .int (nI (i)))]) (st := []) (pc' := 0) rfl rfl rfl ?_
  have hil := lt_get h0
  have loop : ∀ (d : Nat) (j : Nat) (I1 : Nat → Nat → Int32), L.length - j < d → i ≤ j → j < L.length → I1 22 x = nI (L.length - 1) → (∀ a l, a < j → (L.eraseIdx i)[a]? = some l → ent I1 (40 * x + a) l) → (∀ a l, j ≤ a → L[a]? = some l → ent I1 (40 * x + a) l) → fr (pS x) I I1 → V G X yX8_goes cX8_goes 4 none rm_X8_goes A (MZ G X rm_X8_goes A (fun u : Nat → Nat → Int32 => mw G o ad sc u (up2 J 23 x (J 23 x + l0.2.1.toInt64))) (fun u : Nat → Nat → Int32 => none) (fun u : Nat → Nat → Int32 => rowR u x (L.eraseIdx i) ∧ fr (pS x) I u)) 0 0 (mw G o ad sc I1 (up2 J 23 x (J 23 x + l0.2.1.toInt64))) [(3, .int (nI (40 * x + j))), (0, .ref (o)), (1, .int (nI (x))), (2, .int (nI (i)))] 38 [] := by
    intro d
    induction d with
    | zero => intro j I1 hd; exact absurd hd (Nat.not_lt_zero _)
    | succ d ih =>
      intro j I1 hd hj1 hj2 h22 hlo hhi hfr
      refine V.iload_n dX8_goes_38 rfl rfl ?_
      refine V.bipush (v := nI (40)) dX8_goes_39 rfl ?_
      refine V.iload_n dX8_goes_41 rfl rfl ?_
      refine V.imul dX8_goes_42 ?_
      refine V.ei (pk_mul _ _) ?_
      refine V.aload_n dX8_goes_43 rfl rfl ?_
      refine Mg22 rfl dX8_goes_44 ?_
      refine V.iload_n dX8_goes_47 rfl rfl ?_
      refine Ml22 (x) rfl (by omega) dX8_goes_48 ?_
      refine V.ei (y := nI (L.length - 1)) h22 ?_
      refine V.iadd dX8_goes_49 ?_
      refine V.ei (nI_add _ _) ?_
      refine V.icmp_ge (tgt := 115) dX8_goes_50 (by decide) (fun c_1 => ?_) (fun c_1 => ?_)
      · have hc := (nI_leI (by omega) (by omega)).mp c_1
        have he : j = L.length - 1 := by omega
        exact V.vret I1 rfl rfl ⟨⟨by rw [h22, er_len hil], fun a l ha => hlo a l (by have := lt_get ha; rw [er_len hil] at this; omega) ha⟩, hfr⟩ rfl (by decide) (by decide) dX8_goes_115
      · have hc : j < L.length - 1 := by
          rcases Nat.lt_or_ge j (L.length - 1) with h | h
          · exact h
          · exact absurd (nI_le (by omega) (by omega)) c_1
        obtain ⟨l1, hl1⟩ := get_lt (L := L) (i := j + 1) (by omega)
        refine V.aload_n dX8_goes_53 rfl rfl ?_
        refine Mg30 rfl dX8_goes_54 ?_
        refine V.iload_n dX8_goes_57 rfl rfl ?_
        refine V.aload_n dX8_goes_58 rfl rfl ?_
        refine Mg30 rfl dX8_goes_59 ?_
        refine V.iload_n dX8_goes_62 rfl rfl ?_
        refine V.iconst (v := nI (1)) dX8_goes_63 rfl ?_
        refine V.iadd dX8_goes_64 ?_
        refine V.ei (nI_add _ _) ?_
        refine Ml30 ((40 * x + j) + (1)) rfl (by omega) dX8_goes_65 ?_
        refine V.ei (y := nI (l1.1)) (hhi (j + 1) l1 (by omega) hl1).1 ?_
        refine Ms30 (40 * x + j) rfl (by omega) dX8_goes_66 ?_
        refine V.aload_n dX8_goes_67 rfl rfl ?_
        refine Mg31 rfl dX8_goes_68 ?_
        refine V.iload_n dX8_goes_71 rfl rfl ?_
        refine V.aload_n dX8_goes_72 rfl rfl ?_
        refine Mg31 rfl dX8_goes_73 ?_
        refine V.iload_n dX8_goes_76 rfl rfl ?_
        refine V.iconst (v := nI (1)) dX8_goes_77 rfl ?_
        refine V.iadd dX8_goes_78 ?_
        refine V.ei (nI_add _ _) ?_
        refine Ml31 ((40 * x + j) + (1)) rfl (by omega) dX8_goes_79 ?_
        refine V.ei (y := l1.2.1) (hhi (j + 1) l1 (by omega) hl1).2.1 ?_
        refine Ms31 (40 * x + j) rfl (by omega) dX8_goes_80 ?_
        refine V.aload_n dX8_goes_81 rfl rfl ?_
        refine Mg32 rfl dX8_goes_82 ?_
        refine V.iload_n dX8_goes_85 rfl rfl ?_
        refine V.aload_n dX8_goes_86 rfl rfl ?_
        refine Mg32 rfl dX8_goes_87 ?_
        refine V.iload_n dX8_goes_90 rfl rfl ?_
        refine V.iconst (v := nI (1)) dX8_goes_91 rfl ?_
        refine V.iadd dX8_goes_92 ?_
        refine V.ei (nI_add _ _) ?_
        refine Ml32 ((40 * x + j) + (1)) rfl (by omega) dX8_goes_93 ?_
        refine V.ei (y := nI (l1.2.2.1)) (hhi (j + 1) l1 (by omega) hl1).2.2.1 ?_
        refine Ms32 (40 * x + j) rfl (by omega) dX8_goes_94 ?_
        refine V.aload_n dX8_goes_95 rfl rfl ?_
        refine Mg33 rfl dX8_goes_96 ?_
        refine V.iload_n dX8_goes_99 rfl rfl ?_
        refine V.aload_n dX8_goes_100 rfl rfl ?_
        refine Mg33 rfl dX8_goes_101 ?_
        refine V.iload_n dX8_goes_104 rfl rfl ?_
        refine V.iconst (v := nI (1)) dX8_goes_105 rfl ?_
        refine V.iadd dX8_goes_106 ?_
        refine V.ei (nI_add _ _) ?_
        refine Ml33 ((40 * x + j) + (1)) rfl (by omega) dX8_goes_107 ?_
        refine V.ei (y := I1 33 ((40 * x + j) + (1))) (show _ = I1 33 ((40 * x + j) + (1)) from rfl) ?_
        refine Ms33 (40 * x + j) rfl (by omega) dX8_goes_108 ?_
        refine V.iinc (k := 0) (v := nI (40 * x + j + 1)) (lv' := [(3, .int (nI (40 * x + j + 1))), (0, .ref (o)), (1, .int (nI (x))), (2, .int (nI (i)))]) dX8_goes_109 rfl (iinc1 _) (by decide) rfl ?_
        refine V.goto (tgt := 38) dX8_goes_112 (by decide) ?_
        refine V.wd (ws' := mw G o ad sc (w4 I1 (40 * x + j) l1 (vp_nar .boolean (I1 33 ((40 * x + j) + 1)))) (up2 J 23 x (J 23 x + l0.2.1.toInt64))) rfl ?_
        refine V.pick [0, 1, 2, 3] (lv' := [(3, .int (nI (40 * x + j + 1))), (0, .ref (o)), (1, .int (nI (x))), (2, .int (nI (i)))]) rfl ?_
        exact ih (j + 1) _ (by omega) (by omega) (by omega) h22 (fun a l ha hal => by
          by_cases hq : a = j
          · subst hq; rw [goes_at hj1, hl1] at hal; cases hal; exact w4_same _ _ _ _ (fun z => by have e : I1 33 (40 * x + a + 1) = bI l1.2.2.2 := (hhi (a + 1) l1 (by omega) hl1).2.2.2 (by omega); rw [e]; exact nar_bI _)
          · exact w4_other (by omega) (hlo a l (by omega) hal)) (fun a l ha hal => w4_other (by omega) (hhi a l (by omega) hal)) (hfr.tr (w4_fr ⟨by omega, by omega⟩))
  refine V.aload_n dX8_goes_0 rfl rfl ?_
  refine Mg23 rfl dX8_goes_1 ?_
  refine V.iload_n dX8_goes_4 rfl rfl ?_
  refine V.dup2_11 dX8_goes_5 rfl rfl ?_
  refine Ml23 (x) rfl (by omega) dX8_goes_6 ?_
  refine V.aload_n dX8_goes_7 rfl rfl ?_
  refine Mg31 rfl dX8_goes_8 ?_
  refine V.bipush (v := nI (40)) dX8_goes_11 rfl ?_
  refine V.iload_n dX8_goes_13 rfl rfl ?_
  refine V.imul dX8_goes_14 ?_
  refine V.ei (pk_mul _ _) ?_
  refine V.iload_n dX8_goes_15 rfl rfl ?_
  refine V.iadd dX8_goes_16 ?_
  refine V.ei (nI_add _ _) ?_
  refine Ml31 (((40) * (x)) + (i)) rfl (by omega) dX8_goes_17 ?_
  refine V.ei (y := l0.2.1) (hL.2 i l0 h0).2.1 ?_
  refine V.i2l dX8_goes_18 rfl ?_
  refine V.ladd dX8_goes_19 ?_
  refine Ms23 (x) rfl (by omega) dX8_goes_20 ?_
  refine V.aload_n dX8_goes_21 rfl rfl ?_
  refine Mg22 rfl dX8_goes_22 ?_
  refine V.iload_n dX8_goes_25 rfl rfl ?_
  refine V.dup2_11 dX8_goes_26 rfl rfl ?_
  refine Ml22 (x) rfl (by omega) dX8_goes_27 ?_
  refine V.ei (y := nI (L.length)) hL.1 ?_
  refine V.iconst (v := nI (1)) dX8_goes_28 rfl ?_
  refine V.isub dX8_goes_29 ?_
  refine V.ei (y := nI (L.length - 1)) (pk_sub (by omega)) ?_
  refine Ms22 (x) rfl (by omega) dX8_goes_30 ?_
  refine V.bipush (v := nI (40)) dX8_goes_31 rfl ?_
  refine V.iload_n dX8_goes_33 rfl rfl ?_
  refine V.imul dX8_goes_34 ?_
  refine V.ei (pk_mul _ _) ?_
  refine V.iload_n dX8_goes_35 rfl rfl ?_
  refine V.iadd dX8_goes_36 ?_
  refine V.ei (nI_add _ _) ?_
  refine V.istore_n (lv' := [(3, .int (nI (((40) * (x)) + (i)))), (0, .ref (o)), (1, .int (nI (x))), (2, .int (nI (i)))]) dX8_goes_37 rfl (by decide) rfl ?_
  refine V.pick [0, 1, 2, 3] (lv' := [(3, .int (nI (((40) * (x)) + (i)))), (0, .ref (o)), (1, .int (nI (x))), (2, .int (nI (i)))]) rfl ?_; exact loop (L.length + 1) i _ (by omega) (by omega) (by omega) (up2_s _ _ _ _) (fun a l ha hal => ent_fr (fr.up (P := fun k j => k = 22 ∧ j = x) ⟨rfl, rfl⟩) (hL.2 a l (by rw [goes_lo ha] at hal; exact hal)) (fun k h1 h2 h3 => by omega)) (fun a l ha hal => ent_fr (fr.up (P := fun k j => k = 22 ∧ j = x) ⟨rfl, rfl⟩) (hL.2 a l hal) (fun k h1 h2 h3 => by omega)) (fr.up (Or.inl ⟨rfl, rfl⟩))
set_option maxHeartbeats 4000000 in
set_option maxRecDepth 20000 in
theorem c_X8_takes (l : Launch) (G : GG) (o : Nat) (ad : Nat → Nat) (sc : Int32 × Int32 × Int32) (I : Nat → Nat → Int32) (J : Nat → Nat → Int64) (x n : Nat) (L : List Lt) (hx : x < 16) (hL : rowR I x L) (hn : L.length ≤ 40) (hb : ∀ l ∈ L, l.2.2.1 ≤ 50000) (hn2 : n ≤ 100000) : Ct l G yX8_takes cX8_takes 8 none rm_X8_takes [.ref (o), .int (nI (x)), .long (lN (n))] (mw G o ad sc I J) (fun u : Nat → Nat → Int32 => mw G o ad sc u (up2 J 23 x (tk n L (J 23 x)).2)) (fun u : Nat → Nat → Int32 => none) (fun u : Nat → Nat → Int32 => rowR u x (tk n L (J 23 x)).1 ∧ fr (pS x) I u) := by
  refine Ct.of (by decide) (Nat.le_of_ble_eq_true rfl) (fun X A hX => ?_)
  subst hX
  refine V.to (lv' := [(0, .ref (o)), (1, .int (nI (x))), (2, .long (lN (n)))]) (st := []) (pc' := 0) rfl rfl rfl ?_
  have loop : ∀ (d : Nat) (m : Nat) (L1 : List Lt) (I1 : Nat → Nat → Int32) (f1 : Int64), L1.length < d → rowR I1 x L1 → L1.length ≤ 40 → (∀ l ∈ L1, l.2.2.1 ≤ 50000) → m ≤ n → tk m L1 f1 = tk n L (J 23 x) → fr (pS x) I I1 → V G X yX8_takes cX8_takes 8 none rm_X8_takes A (MZ G X rm_X8_takes A (fun u : Nat → Nat → Int32 => mw G o ad sc u (up2 J 23 x (tk n L (J 23 x)).2)) (fun u : Nat → Nat → Int32 => none) (fun u : Nat → Nat → Int32 => rowR u x (tk n L (J 23 x)).1 ∧ fr (pS x) I u)) 0 0 (mw G o ad sc I1 (up2 J 23 x f1)) [(4, .long (lN (m))), (0, .ref (o)), (1, .int (nI (x))), (2, .long (lN (n)))] 3 [] := by
    intro d
    induction d with
    | zero => intro m L1 I1 f1 hd; exact absurd hd (Nat.not_lt_zero _)
    | succ d ih =>
      intro m L1 I1 f1 hd hr hl40 hb1 hm htk hfr
      refine V.lload dX8_takes_3 rfl ?_
      refine V.lconst (v := lN 0) dX8_takes_5 rfl ?_
      refine V.lc_le (tgt := 106) dX8_takes_6 dX8_takes_7 (by decide) (fun c_1 => ?_) (fun c_1 => ?_)
      · have hc := (pk_lLE (by omega) (by omega)).mp c_1
        have he : m = 0 := by omega
        subst he
        rw [tk_0] at htk
        exact V.vret I1 rfl rfl ⟨by rw [← htk]; exact hr, hfr⟩ (by rw [← htk]) (by decide) (by decide) dX8_takes_106
      · have h0 : 0 < m := by
          rcases Nat.eq_zero_or_pos m with h | h
          · subst h; exact absurd (by decide) c_1
          · exact h
        refine V.aload_n dX8_takes_10 rfl rfl ?_
        refine Mg22 rfl dX8_takes_11 ?_
        refine V.iload_n dX8_takes_14 rfl rfl ?_
        refine Ml22 (x) rfl (by omega) dX8_takes_15 ?_
        refine V.ei (y := nI (L1.length)) hr.1 ?_
        refine V.if_le (tgt := 106) dX8_takes_16 (by decide) (fun c_2 => ?_) (fun c_2 => ?_)
        · have he : L1 = [] := by
            cases L1 with
            | nil => rfl
            | cons a b => exact absurd c_2 (nI_nle (by simp) (by simp at hl40 ⊢; omega))
          subst he
          rw [tk_nil] at htk
          exact V.vret I1 rfl rfl ⟨by rw [← htk]; exact hr, hfr⟩ (by rw [← htk]) (by decide) (by decide) dX8_takes_106
        · obtain ⟨l, r, rfl⟩ : ∃ l r, L1 = l :: r := by
            cases L1 with
            | nil => exact absurd (by decide) c_2
            | cons a b => exact ⟨a, b, rfl⟩
          have hb0 := hb1 l List.mem_cons_self
          refine V.bipush (v := nI (40)) dX8_takes_19 rfl ?_
          refine V.iload_n dX8_takes_21 rfl rfl ?_
          refine V.imul dX8_takes_22 ?_
          refine V.ei (pk_mul _ _) ?_
          refine V.istore (lv' := [(6, .int (nI ((40) * (x)))), (4, .long (lN (m))), (0, .ref (o)), (1, .int (nI (x))), (2, .long (lN (n)))]) dX8_takes_23 (by decide) rfl ?_
          refine V.aload_n dX8_takes_25 rfl rfl ?_
          refine Mg32 rfl dX8_takes_26 ?_
          refine V.iload dX8_takes_29 rfl ?_
          refine Ml32 ((40) * (x)) rfl (by omega) dX8_takes_31 ?_
          refine V.ei (y := nI (l.2.2.1)) (hr.2 0 l rfl).2.2.1 ?_
          refine V.i2l (v := lN (l.2.2.1)) dX8_takes_32 (nI_l (by omega)) ?_
          refine V.lload dX8_takes_33 rfl ?_
          refine V.lc_ge (tgt := 49) dX8_takes_35 dX8_takes_36 (by decide) (fun c_3 => ?_) (fun c_3 => ?_)
          · have hge := (pk_lLE (by omega) (by omega)).mp c_3
            refine V.lload dX8_takes_49 rfl ?_
            refine V.l2i (v := nI (m)) dX8_takes_51 (lN_i _) ?_
            refine V.istore (lv' := [(7, .int (nI (m))), (6, .int (nI ((40) * (x)))), (4, .long (lN (m))), (0, .ref (o)), (1, .int (nI (x))), (2, .long (lN (n)))]) dX8_takes_52 (by decide) rfl ?_
            refine V.aload_n dX8_takes_54 rfl rfl ?_
            refine Mg32 rfl dX8_takes_55 ?_
            refine V.iload dX8_takes_58 rfl ?_
            refine V.dup2_11 dX8_takes_60 rfl rfl ?_
            refine Ml32 ((40) * (x)) rfl (by omega) dX8_takes_61 ?_
            refine V.ei (y := nI (l.2.2.1)) (hr.2 0 l rfl).2.2.1 ?_
            refine V.iload dX8_takes_62 rfl ?_
            refine V.isub dX8_takes_64 ?_
            refine V.ei (y := nI (l.2.2.1 - (m))) (pk_sub (by omega)) ?_
            refine Ms32 ((40) * (x)) rfl (by omega) dX8_takes_65 ?_
            refine V.aload_n dX8_takes_66 rfl rfl ?_
            refine Mg31 rfl dX8_takes_67 ?_
            refine V.iload dX8_takes_70 rfl ?_
            refine V.dup2_11 dX8_takes_72 rfl rfl ?_
            refine Ml31 ((40) * (x)) rfl (by omega) dX8_takes_73 ?_
            refine V.ei (y := l.2.1) (hr.2 0 l rfl).2.1 ?_
            refine V.iload dX8_takes_74 rfl ?_
            refine V.isub dX8_takes_76 ?_
            refine Ms31 ((40) * (x)) rfl (by omega) dX8_takes_77 ?_
            refine V.lload dX8_takes_78 rfl ?_
            refine V.iload dX8_takes_80 rfl ?_
            refine V.i2l (v := lN (m)) dX8_takes_82 (nI_l (by omega)) ?_
            refine V.lsub dX8_takes_83 ?_
            refine V.el (y := lN (m - (m))) (lN_sub (by omega)) ?_
            refine V.lstore (lv' := [(4, .long (lN (m - (m)))), (7, .int (nI (m))), (6, .int (nI ((40) * (x)))), (0, .ref (o)), (1, .int (nI (x))), (2, .long (lN (n)))]) dX8_takes_84 (by decide) rfl ?_
            refine V.aload_n dX8_takes_86 rfl rfl ?_
            refine Mg32 rfl dX8_takes_87 ?_
            refine V.iload dX8_takes_90 rfl ?_
            refine Ml32 ((40) * (x)) rfl (by omega) dX8_takes_92 ?_
            refine V.ei (y := nI (l.2.2.1 - (m))) (by rw [up2_k _ _ (by decide), up2_s]) ?_
            refine V.if_le (tgt := 97) dX8_takes_93 (by decide) (fun c_4 => ?_) (fun c_4 => ?_)
            · have hz : l.2.2.1 = m := by
                rcases Nat.lt_or_ge m l.2.2.1 with h | h
                · exact absurd c_4 (nI_nle (by omega) (by omega))
                · omega
              refine V.aload_n dX8_takes_97 rfl rfl ?_
              refine V.iload_n dX8_takes_98 rfl rfl ?_
              refine V.iconst (v := nI (0)) dX8_takes_99 rfl ?_
              refine V.callV0 (c_X8_goes _ G o ad sc (up2 (up2 I1 32 ((40) * (x)) (nI (l.2.2.1 - (m)))) 31 ((40) * (x)) ((l.2.1) - (nI (m)))) (up2 J 23 x f1) x 0 ((l.1, l.2.1 - nI (m), l.2.2.1 - (m), l.2.2.2) :: r) (l.1, l.2.1 - nI (m), l.2.2.1 - (m), l.2.2.2) hx (rowR_head hr) (by simpa using hl40) rfl) [] 0 9 rfl rfl rfl rfl (goodV kM_X8_165 kI_X8_goes kV_X8_goes kN_X8 kC_X8_goes) ds_X8_goes (by decide) (Nat.le_of_ble_eq_true rfl) dX8_takes_100 (by decide) (fun u hu => ?_)
              refine V.wd (ws' := mw G o ad sc u (up2 J 23 x (f1 + (l.2.1 - nI (m)).toInt64))) (by rw [up2_2, up2_s]) ?_
              refine V.to (lv' := [(4, .long (lN (m - (m)))), (7, .int (nI (m))), (6, .int (nI ((40) * (x)))), (0, .ref (o)), (1, .int (nI (x))), (2, .long (lN (n)))]) (st := []) (pc' := 103) rfl rfl rfl ?_
              refine V.goto (tgt := 3) dX8_takes_103 (by decide) ?_
              refine V.pick [0, 3, 4, 5] (lv' := [(4, .long (lN (m - (m)))), (0, .ref (o)), (1, .int (nI (x))), (2, .long (lN (n)))]) rfl ?_; exact ih _ r u _ (by simp at hd; omega) hu.1 (by simp at hl40; omega) (fun q hq => hb1 q (List.mem_cons_of_mem _ hq)) (by omega) (by rw [← htk, tk_ge h0 (by omega), hz]) ((hfr.tr head_fr).tr hu.2)
            · have hz : m < l.2.2.1 := by
                rcases Nat.lt_or_ge m l.2.2.1 with h | h
                · exact h
                · exact absurd (by rw [show l.2.2.1 - m = 0 by omega]; decide) c_4
              exact V.vret _ rfl rfl ⟨by rw [← htk, tk_lt h0 hz]; exact rowR_head hr, hfr.tr head_fr⟩ (by rw [← htk, tk_lt h0 hz]) (by decide) (by decide) dX8_takes_96
          · have hlt : l.2.2.1 < m := by
              rcases Nat.lt_or_ge l.2.2.1 m with h | h
              · exact h
              · exact absurd ((pk_lLE (by omega) (by omega)).mpr h) c_3
            refine V.aload_n dX8_takes_39 rfl rfl ?_
            refine Mg32 rfl dX8_takes_40 ?_
            refine V.iload dX8_takes_43 rfl ?_
            refine Ml32 ((40) * (x)) rfl (by omega) dX8_takes_45 ?_
            refine V.ei (y := nI (l.2.2.1)) (hr.2 0 l rfl).2.2.1 ?_
            refine V.goto (tgt := 52) dX8_takes_46 (by decide) ?_
            refine V.istore (lv' := [(7, .int (nI (l.2.2.1))), (6, .int (nI ((40) * (x)))), (4, .long (lN (m))), (0, .ref (o)), (1, .int (nI (x))), (2, .long (lN (n)))]) dX8_takes_52 (by decide) rfl ?_
            refine V.aload_n dX8_takes_54 rfl rfl ?_
            refine Mg32 rfl dX8_takes_55 ?_
            refine V.iload dX8_takes_58 rfl ?_
            refine V.dup2_11 dX8_takes_60 rfl rfl ?_
            refine Ml32 ((40) * (x)) rfl (by omega) dX8_takes_61 ?_
            refine V.ei (y := nI (l.2.2.1)) (hr.2 0 l rfl).2.2.1 ?_
            refine V.iload dX8_takes_62 rfl ?_
            refine V.isub dX8_takes_64 ?_
            refine V.ei (y := nI (l.2.2.1 - (l.2.2.1))) (pk_sub (by omega)) ?_
            refine Ms32 ((40) * (x)) rfl (by omega) dX8_takes_65 ?_
            refine V.aload_n dX8_takes_66 rfl rfl ?_
            refine Mg31 rfl dX8_takes_67 ?_
            refine V.iload dX8_takes_70 rfl ?_
            refine V.dup2_11 dX8_takes_72 rfl rfl ?_
            refine Ml31 ((40) * (x)) rfl (by omega) dX8_takes_73 ?_
            refine V.ei (y := l.2.1) (hr.2 0 l rfl).2.1 ?_
            refine V.iload dX8_takes_74 rfl ?_
            refine V.isub dX8_takes_76 ?_
            refine Ms31 ((40) * (x)) rfl (by omega) dX8_takes_77 ?_
            refine V.lload dX8_takes_78 rfl ?_
            refine V.iload dX8_takes_80 rfl ?_
            refine V.i2l (v := lN (l.2.2.1)) dX8_takes_82 (nI_l (by omega)) ?_
            refine V.lsub dX8_takes_83 ?_
            refine V.el (y := lN (m - (l.2.2.1))) (lN_sub (by omega)) ?_
            refine V.lstore (lv' := [(4, .long (lN (m - (l.2.2.1)))), (7, .int (nI (l.2.2.1))), (6, .int (nI ((40) * (x)))), (0, .ref (o)), (1, .int (nI (x))), (2, .long (lN (n)))]) dX8_takes_84 (by decide) rfl ?_
            refine V.aload_n dX8_takes_86 rfl rfl ?_
            refine Mg32 rfl dX8_takes_87 ?_
            refine V.iload dX8_takes_90 rfl ?_
            refine Ml32 ((40) * (x)) rfl (by omega) dX8_takes_92 ?_
            refine V.ei (y := nI (l.2.2.1 - (l.2.2.1))) (by rw [up2_k _ _ (by decide), up2_s]) ?_
            refine V.if_le (tgt := 97) dX8_takes_93 (by decide) (fun c_5 => ?_) (fun c_5 => ?_)
            · refine V.aload_n dX8_takes_97 rfl rfl ?_
              refine V.iload_n dX8_takes_98 rfl rfl ?_
              refine V.iconst (v := nI (0)) dX8_takes_99 rfl ?_
              refine V.callV0 (c_X8_goes _ G o ad sc (up2 (up2 I1 32 ((40) * (x)) (nI (l.2.2.1 - (l.2.2.1)))) 31 ((40) * (x)) ((l.2.1) - (nI (l.2.2.1)))) (up2 J 23 x f1) x 0 ((l.1, l.2.1 - nI (l.2.2.1), l.2.2.1 - (l.2.2.1), l.2.2.2) :: r) (l.1, l.2.1 - nI (l.2.2.1), l.2.2.1 - (l.2.2.1), l.2.2.2) hx (rowR_head hr) (by simpa using hl40) rfl) [] 0 9 rfl rfl rfl rfl (goodV kM_X8_165 kI_X8_goes kV_X8_goes kN_X8 kC_X8_goes) ds_X8_goes (by decide) (Nat.le_of_ble_eq_true rfl) dX8_takes_100 (by decide) (fun u hu => ?_)
              refine V.wd (ws' := mw G o ad sc u (up2 J 23 x (f1 + (l.2.1 - nI (l.2.2.1)).toInt64))) (by rw [up2_2, up2_s]) ?_
              refine V.to (lv' := [(4, .long (lN (m - (l.2.2.1)))), (7, .int (nI (l.2.2.1))), (6, .int (nI ((40) * (x)))), (0, .ref (o)), (1, .int (nI (x))), (2, .long (lN (n)))]) (st := []) (pc' := 103) rfl rfl rfl ?_
              refine V.goto (tgt := 3) dX8_takes_103 (by decide) ?_
              refine V.pick [0, 3, 4, 5] (lv' := [(4, .long (lN (m - (l.2.2.1)))), (0, .ref (o)), (1, .int (nI (x))), (2, .long (lN (n)))]) rfl ?_; exact ih _ r u _ (by simp at hd; omega) hu.1 (by simp at hl40; omega) (fun q hq => hb1 q (List.mem_cons_of_mem _ hq)) (by omega) (by rw [← htk, tk_ge h0 (by omega)]) ((hfr.tr head_fr).tr hu.2)
            · exact absurd (by rw [Nat.sub_self]; decide) c_5
  refine V.wd (ws' := mw G o ad sc I (up2 J 23 x (J 23 x))) (by rw [up2_id]) ?_
  refine V.lload_n dX8_takes_0 rfl rfl ?_
  refine V.lstore (lv' := [(4, .long (lN (n))), (0, .ref (o)), (1, .int (nI (x))), (2, .long (lN (n)))]) dX8_takes_1 (by decide) rfl ?_
  refine V.pick [0, 1, 2, 3] (lv' := [(4, .long (lN (n))), (0, .ref (o)), (1, .int (nI (x))), (2, .long (lN (n)))]) rfl ?_; exact loop (L.length + 1) n L I (J 23 x) (by omega) hL hn hb (by omega) rfl fr.rf
set_option maxHeartbeats 4000000 in
set_option maxRecDepth 20000 in
theorem c_X8_comes (l : Launch) (G : GG) (o : Nat) (ad : Nat → Nat) (sc : Int32 × Int32 × Int32) (I : Nat → Nat → Int32) (J : Nat → Nat → Int64) (x n now : Nat) (L : List Lt) (hx : x < 16) (hL : rowR I x L) (hn : L.length ≤ 40) (hn2 : n ≤ 100000) (hmo : ∀ l ∈ L, l.1 ≤ 4000) (hno : now ≤ 4000) : Ct l G yX8_comes cX8_comes 6 none rm_X8_comes [.ref (o), .int (nI (x)), .long (lN (n)), .int (nI (now))] (mw G o ad sc I J) (fun u : Nat → Nat → Int32 => mw G o ad sc u J) (fun u : Nat → Nat → Int32 => none) (fun u : Nat → Nat → Int32 => rowR u x (pt n now L) ∧ fr (pS x) I u) := by
  refine Ct.of (by decide) (Nat.le_of_ble_eq_true rfl) (fun X A hX => ?_)
  subst hX
  refine V.to (lv' := [(0, .ref (o)), (1, .int (nI (x))), (2, .long (lN (n))), (4, .int (nI (now)))]) (st := []) (pc' := 0) rfl rfl rfl ?_
  refine V.lload_n dX8_comes_0 rfl rfl ?_
  refine V.lconst (v := lN 0) dX8_comes_1 rfl ?_
  refine V.lc_ne (tgt := 7) dX8_comes_2 dX8_comes_3 (by decide) (fun c_1 => ?_) (fun c_1 => ?_)
  · have hn0 : n ≠ 0 := fun q => c_1 (by rw [q])
    refine V.bipush (v := nI (40)) dX8_comes_7 rfl ?_
    refine V.iload_n dX8_comes_9 rfl rfl ?_
    refine V.imul dX8_comes_10 ?_
    refine V.ei (pk_mul _ _) ?_
    refine V.aload_n dX8_comes_11 rfl rfl ?_
    refine Mg22 rfl dX8_comes_12 ?_
    refine V.iload_n dX8_comes_15 rfl rfl ?_
    refine Ml22 (x) rfl (by omega) dX8_comes_16 ?_
    refine V.ei (y := nI (L.length)) hL.1 ?_
    refine V.iadd dX8_comes_17 ?_
    refine V.ei (nI_add _ _) ?_
    refine V.iconst (v := nI (1)) dX8_comes_18 rfl ?_
    refine V.isub dX8_comes_19 ?_
    refine V.istore (lv' := [(5, .int ((nI (((40) * (x)) + (L.length))) - (nI (1)))), (0, .ref (o)), (1, .int (nI (x))), (2, .long (lN (n))), (4, .int (nI (now)))]) dX8_comes_20 (by decide) rfl ?_
    refine V.aload_n dX8_comes_22 rfl rfl ?_
    refine Mg22 rfl dX8_comes_23 ?_
    refine V.iload_n dX8_comes_26 rfl rfl ?_
    refine Ml22 (x) rfl (by omega) dX8_comes_27 ?_
    refine V.ei (y := nI (L.length)) hL.1 ?_
    refine V.if_eq (tgt := 54) dX8_comes_28 (by decide) (fun c_2 => ?_) (fun c_2 => ?_)
    · have he : L = [] := by
        cases L with
        | nil => rfl
        | cons a b => exact absurd c_2 (nI_ne0 (by simp) (by simp at hn ⊢; omega))
      have hlt : L.length < 40 := by rw [he]; decide
      refine V.iinc (k := 0) (v := nI (40 * x + L.length)) (lv' := [(5, .int (nI (40 * x + L.length))), (0, .ref (o)), (1, .int (nI (x))), (2, .long (lN (n))), (4, .int (nI (now)))]) dX8_comes_54 rfl (sub1_inc _) (by decide) rfl ?_
      refine V.aload_n dX8_comes_57 rfl rfl ?_
      refine Mg22 rfl dX8_comes_58 ?_
      refine V.iload_n dX8_comes_61 rfl rfl ?_
      refine V.dup2_11 dX8_comes_62 rfl rfl ?_
      refine Ml22 (x) rfl (by omega) dX8_comes_63 ?_
      refine V.ei (y := nI (L.length)) hL.1 ?_
      refine V.iconst (v := nI (1)) dX8_comes_64 rfl ?_
      refine V.iadd dX8_comes_65 ?_
      refine V.ei (nI_add _ _) ?_
      refine Ms22 (x) rfl (by omega) dX8_comes_66 ?_
      refine V.aload_n dX8_comes_67 rfl rfl ?_
      refine Mg30 rfl dX8_comes_68 ?_
      refine V.iload dX8_comes_71 rfl ?_
      refine V.iload dX8_comes_73 rfl ?_
      refine Ms30 (40 * x + L.length) rfl (by omega) dX8_comes_75 ?_
      refine V.aload_n dX8_comes_76 rfl rfl ?_
      refine Mg31 rfl dX8_comes_77 ?_
      refine V.iload dX8_comes_80 rfl ?_
      refine V.iconst (v := nI (0)) dX8_comes_82 rfl ?_
      refine Ms31 (40 * x + L.length) rfl (by omega) dX8_comes_83 ?_
      refine V.aload_n dX8_comes_84 rfl rfl ?_
      refine Mg32 rfl dX8_comes_85 ?_
      refine V.iload dX8_comes_88 rfl ?_
      refine V.iconst (v := nI (0)) dX8_comes_90 rfl ?_
      refine Ms32 (40 * x + L.length) rfl (by omega) dX8_comes_91 ?_
      refine V.aload_n dX8_comes_92 rfl rfl ?_
      refine Mg31 rfl dX8_comes_93 ?_
      refine V.iload dX8_comes_96 rfl ?_
      refine V.dup2_11 dX8_comes_98 rfl rfl ?_
      refine Ml31 (40 * x + L.length) rfl (by omega) dX8_comes_99 ?_
      refine V.ei (y := nI (0)) (by simp [up2]) ?_
      refine V.lload_n dX8_comes_100 rfl rfl ?_
      refine V.l2i (v := nI (n)) dX8_comes_101 (lN_i _) ?_
      refine V.iadd dX8_comes_102 ?_
      refine V.ei (nI_add _ _) ?_
      refine Ms31 (40 * x + L.length) rfl (by omega) dX8_comes_103 ?_
      refine V.aload_n dX8_comes_104 rfl rfl ?_
      refine Mg32 rfl dX8_comes_105 ?_
      refine V.iload dX8_comes_108 rfl ?_
      refine V.dup2_11 dX8_comes_110 rfl rfl ?_
      refine Ml32 (40 * x + L.length) rfl (by omega) dX8_comes_111 ?_
      refine V.ei (y := nI (0)) (by simp [up2]) ?_
      refine V.lload_n dX8_comes_112 rfl rfl ?_
      refine V.l2i (v := nI (n)) dX8_comes_113 (lN_i _) ?_
      refine V.iadd dX8_comes_114 ?_
      refine V.ei (nI_add _ _) ?_
      refine Ms32 (40 * x + L.length) rfl (by omega) dX8_comes_115 ?_
      refine V.aload_n dX8_comes_116 rfl rfl ?_
      refine Mg33 rfl dX8_comes_117 ?_
      refine V.iload dX8_comes_120 rfl ?_
      refine V.iconst (v := nI (0)) dX8_comes_122 rfl ?_
      refine Ms33 (40 * x + L.length) rfl (by omega) dX8_comes_123 ?_
      exact V.vret _ rfl rfl (by rw [show pt n now L = L ++ [(now, nI n, n, false)] by rw [he, pt_nil hn0]]; exact row_new hL hlt (by simp [up2]) (by simp [up2]) (by simp [up2]) (by simp [up2]) (by simp [up2]; decide) (fun k j z1 z2 => by rw [up2_n _ _ (by omega), up2_n _ _ (by omega), up2_n _ _ (by omega), up2_n _ _ (by omega), up2_n _ _ (by omega), up2_n _ _ (by omega), up2_n _ _ (by omega)])) rfl (by decide) (by decide) dX8_comes_124
    · have hp : 0 < L.length := by
        rcases Nat.eq_zero_or_pos L.length with h | h
        · exact absurd (by rw [h]; rfl) c_2
        · exact h
      obtain ⟨l, hl⟩ := get_lt (L := L) (i := L.length - 1) (by omega)
      have hml := hmo l (List.mem_of_getElem? hl)
      refine V.to (lv' := [(5, .int (nI (40 * x + (L.length - 1)))), (0, .ref (o)), (1, .int (nI (x))), (2, .long (lN (n))), (4, .int (nI (now)))]) (st := []) (by rw [pk_sub (by omega)]; congr 5; omega) rfl rfl ?_
      refine V.aload_n dX8_comes_31 rfl rfl ?_
      refine Mg30 rfl dX8_comes_32 ?_
      refine V.iload dX8_comes_35 rfl ?_
      refine Ml30 (40 * x + (L.length - 1)) rfl (by omega) dX8_comes_37 ?_
      refine V.ei (y := nI (l.1)) (hL.2 _ l hl).1 ?_
      refine V.iload dX8_comes_38 rfl ?_
      refine V.icmp_eq (tgt := 92) dX8_comes_40 (by decide) (fun c_3 => ?_) (fun c_3 => ?_)
      · have hq : l.1 = now ∨ 40 ≤ L.length := Or.inl ((nI_eq (by omega) (by omega)).mp c_3)
        refine V.aload_n dX8_comes_92 rfl rfl ?_
        refine Mg31 rfl dX8_comes_93 ?_
        refine V.iload dX8_comes_96 rfl ?_
        refine V.dup2_11 dX8_comes_98 rfl rfl ?_
        refine Ml31 (40 * x + (L.length - 1)) rfl (by omega) dX8_comes_99 ?_
        refine V.ei (y := l.2.1) (hL.2 _ l hl).2.1 ?_
        refine V.lload_n dX8_comes_100 rfl rfl ?_
        refine V.l2i (v := nI (n)) dX8_comes_101 (lN_i _) ?_
        refine V.iadd dX8_comes_102 ?_
        refine Ms31 (40 * x + (L.length - 1)) rfl (by omega) dX8_comes_103 ?_
        refine V.aload_n dX8_comes_104 rfl rfl ?_
        refine Mg32 rfl dX8_comes_105 ?_
        refine V.iload dX8_comes_108 rfl ?_
        refine V.dup2_11 dX8_comes_110 rfl rfl ?_
        refine Ml32 (40 * x + (L.length - 1)) rfl (by omega) dX8_comes_111 ?_
        refine V.ei (y := nI (l.2.2.1)) (hL.2 _ l hl).2.2.1 ?_
        refine V.lload_n dX8_comes_112 rfl rfl ?_
        refine V.l2i (v := nI (n)) dX8_comes_113 (lN_i _) ?_
        refine V.iadd dX8_comes_114 ?_
        refine V.ei (nI_add _ _) ?_
        refine Ms32 (40 * x + (L.length - 1)) rfl (by omega) dX8_comes_115 ?_
        refine V.aload_n dX8_comes_116 rfl rfl ?_
        refine Mg33 rfl dX8_comes_117 ?_
        refine V.iload dX8_comes_120 rfl ?_
        refine V.iconst (v := nI (0)) dX8_comes_122 rfl ?_
        refine Ms33 (40 * x + (L.length - 1)) rfl (by omega) dX8_comes_123 ?_
        exact V.vret _ rfl rfl (by rw [pt_mod hn0 hl hq]; exact row_mod hL hn hl (by simp [up2]) (by simp [up2]) (by simp [up2]; decide) (fun k j z => by rw [up2_n _ _ (by omega), up2_n _ _ (by omega), up2_n _ _ (by omega)])) rfl (by decide) (by decide) dX8_comes_124
      · have hne : l.1 ≠ now := fun q => c_3 (by rw [q])
        refine V.aload_n dX8_comes_43 rfl rfl ?_
        refine Mg22 rfl dX8_comes_44 ?_
        refine V.iload_n dX8_comes_47 rfl rfl ?_
        refine Ml22 (x) rfl (by omega) dX8_comes_48 ?_
        refine V.ei (y := nI (L.length)) hL.1 ?_
        refine V.bipush (v := nI (40)) dX8_comes_49 rfl ?_
        refine V.icmp_ge (tgt := 92) dX8_comes_51 (by decide) (fun c_4 => ?_) (fun c_4 => ?_)
        · have hq : l.1 = now ∨ 40 ≤ L.length := Or.inr ((nI_leI (by omega) (by omega)).mp c_4)
          refine V.aload_n dX8_comes_92 rfl rfl ?_
          refine Mg31 rfl dX8_comes_93 ?_
          refine V.iload dX8_comes_96 rfl ?_
          refine V.dup2_11 dX8_comes_98 rfl rfl ?_
          refine Ml31 (40 * x + (L.length - 1)) rfl (by omega) dX8_comes_99 ?_
          refine V.ei (y := l.2.1) (hL.2 _ l hl).2.1 ?_
          refine V.lload_n dX8_comes_100 rfl rfl ?_
          refine V.l2i (v := nI (n)) dX8_comes_101 (lN_i _) ?_
          refine V.iadd dX8_comes_102 ?_
          refine Ms31 (40 * x + (L.length - 1)) rfl (by omega) dX8_comes_103 ?_
          refine V.aload_n dX8_comes_104 rfl rfl ?_
          refine Mg32 rfl dX8_comes_105 ?_
          refine V.iload dX8_comes_108 rfl ?_
          refine V.dup2_11 dX8_comes_110 rfl rfl ?_
          refine Ml32 (40 * x + (L.length - 1)) rfl (by omega) dX8_comes_111 ?_
          refine V.ei (y := nI (l.2.2.1)) (hL.2 _ l hl).2.2.1 ?_
          refine V.lload_n dX8_comes_112 rfl rfl ?_
          refine V.l2i (v := nI (n)) dX8_comes_113 (lN_i _) ?_
          refine V.iadd dX8_comes_114 ?_
          refine V.ei (nI_add _ _) ?_
          refine Ms32 (40 * x + (L.length - 1)) rfl (by omega) dX8_comes_115 ?_
          refine V.aload_n dX8_comes_116 rfl rfl ?_
          refine Mg33 rfl dX8_comes_117 ?_
          refine V.iload dX8_comes_120 rfl ?_
          refine V.iconst (v := nI (0)) dX8_comes_122 rfl ?_
          refine Ms33 (40 * x + (L.length - 1)) rfl (by omega) dX8_comes_123 ?_
          exact V.vret _ rfl rfl (by rw [pt_mod hn0 hl hq]; exact row_mod hL hn hl (by simp [up2]) (by simp [up2]) (by simp [up2]; decide) (fun k j z => by rw [up2_n _ _ (by omega), up2_n _ _ (by omega), up2_n _ _ (by omega)])) rfl (by decide) (by decide) dX8_comes_124
        · have hlt : L.length < 40 := by
            rcases Nat.lt_or_ge L.length 40 with h | h
            · exact h
            · exact absurd (nI_le h (by omega)) c_4
          refine V.iinc (k := 0) (v := nI (40 * x + L.length)) (lv' := [(5, .int (nI (40 * x + L.length))), (0, .ref (o)), (1, .int (nI (x))), (2, .long (lN (n))), (4, .int (nI (now)))]) dX8_comes_54 rfl (by rw [iinc1]; congr 1; omega) (by decide) rfl ?_
          refine V.aload_n dX8_comes_57 rfl rfl ?_
          refine Mg22 rfl dX8_comes_58 ?_
          refine V.iload_n dX8_comes_61 rfl rfl ?_
          refine V.dup2_11 dX8_comes_62 rfl rfl ?_
          refine Ml22 (x) rfl (by omega) dX8_comes_63 ?_
          refine V.ei (y := nI (L.length)) hL.1 ?_
          refine V.iconst (v := nI (1)) dX8_comes_64 rfl ?_
          refine V.iadd dX8_comes_65 ?_
          refine V.ei (nI_add _ _) ?_
          refine Ms22 (x) rfl (by omega) dX8_comes_66 ?_
          refine V.aload_n dX8_comes_67 rfl rfl ?_
          refine Mg30 rfl dX8_comes_68 ?_
          refine V.iload dX8_comes_71 rfl ?_
          refine V.iload dX8_comes_73 rfl ?_
          refine Ms30 (40 * x + L.length) rfl (by omega) dX8_comes_75 ?_
          refine V.aload_n dX8_comes_76 rfl rfl ?_
          refine Mg31 rfl dX8_comes_77 ?_
          refine V.iload dX8_comes_80 rfl ?_
          refine V.iconst (v := nI (0)) dX8_comes_82 rfl ?_
          refine Ms31 (40 * x + L.length) rfl (by omega) dX8_comes_83 ?_
          refine V.aload_n dX8_comes_84 rfl rfl ?_
          refine Mg32 rfl dX8_comes_85 ?_
          refine V.iload dX8_comes_88 rfl ?_
          refine V.iconst (v := nI (0)) dX8_comes_90 rfl ?_
          refine Ms32 (40 * x + L.length) rfl (by omega) dX8_comes_91 ?_
          refine V.aload_n dX8_comes_92 rfl rfl ?_
          refine Mg31 rfl dX8_comes_93 ?_
          refine V.iload dX8_comes_96 rfl ?_
          refine V.dup2_11 dX8_comes_98 rfl rfl ?_
          refine Ml31 (40 * x + L.length) rfl (by omega) dX8_comes_99 ?_
          refine V.ei (y := nI (0)) (by simp [up2]) ?_
          refine V.lload_n dX8_comes_100 rfl rfl ?_
          refine V.l2i (v := nI (n)) dX8_comes_101 (lN_i _) ?_
          refine V.iadd dX8_comes_102 ?_
          refine V.ei (nI_add _ _) ?_
          refine Ms31 (40 * x + L.length) rfl (by omega) dX8_comes_103 ?_
          refine V.aload_n dX8_comes_104 rfl rfl ?_
          refine Mg32 rfl dX8_comes_105 ?_
          refine V.iload dX8_comes_108 rfl ?_
          refine V.dup2_11 dX8_comes_110 rfl rfl ?_
          refine Ml32 (40 * x + L.length) rfl (by omega) dX8_comes_111 ?_
          refine V.ei (y := nI (0)) (by simp [up2]) ?_
          refine V.lload_n dX8_comes_112 rfl rfl ?_
          refine V.l2i (v := nI (n)) dX8_comes_113 (lN_i _) ?_
          refine V.iadd dX8_comes_114 ?_
          refine V.ei (nI_add _ _) ?_
          refine Ms32 (40 * x + L.length) rfl (by omega) dX8_comes_115 ?_
          refine V.aload_n dX8_comes_116 rfl rfl ?_
          refine Mg33 rfl dX8_comes_117 ?_
          refine V.iload dX8_comes_120 rfl ?_
          refine V.iconst (v := nI (0)) dX8_comes_122 rfl ?_
          refine Ms33 (40 * x + L.length) rfl (by omega) dX8_comes_123 ?_
          exact V.vret _ rfl rfl (by rw [pt_new hn0 hl hne hlt]; exact row_new hL hlt (by simp [up2]) (by simp [up2]) (by simp [up2]) (by simp [up2]) (by simp [up2]; decide) (fun k j z1 z2 => by rw [up2_n _ _ (by omega), up2_n _ _ (by omega), up2_n _ _ (by omega), up2_n _ _ (by omega), up2_n _ _ (by omega), up2_n _ _ (by omega), up2_n _ _ (by omega)])) rfl (by decide) (by decide) dX8_comes_124
  · have he : n = 0 := (pk_lEQ (by omega) (by omega)).mp c_1
    subst he
    exact V.vret I rfl rfl ⟨by rw [pt_0]; exact hL, fr.rf⟩ rfl (by decide) (by decide) dX8_comes_6
set_option maxHeartbeats 4000000 in
set_option maxRecDepth 20000 in
theorem c_X8_space (l : Launch) (G : GG) (o : Nat) (ad : Nat → Nat) (sc : Int32 × Int32 × Int32) (I : Nat → Nat → Int32) (J : Nat → Nat → Int64) (g t r : Nat) (L : List Lt) (ht : t < 8) (hx : 8 * g + t < 16) (hr : I 8 t = nI r) (hr2 : r ≤ 50000) (hL : rowR I (8 * g + t) L) (ok : okL L) : Ct l G yX8_space cX8_space 3 (some .long) rm_X8_space [.ref (o), .int (nI (g)), .int (nI (t))] (mw G o ad sc I J) (fun u : Unit => (mw G o ad sc I J)) (fun u : Unit => some (.long (lN (r - tsum L)))) (fun u : Unit => True) := by
  refine Ct.of (by decide) (Nat.le_of_ble_eq_true rfl) (fun X A hX => ?_)
  subst hX
  refine V.to (lv' := [(0, .ref (o)), (1, .int (nI (g))), (2, .int (nI (t)))]) (st := []) (pc' := 0) rfl rfl rfl ?_
  have hto := ok.2.1
  refine V.aload_n dX8_space_0 rfl rfl ?_
  refine Mg8 rfl dX8_space_1 ?_
  refine V.iload_n dX8_space_4 rfl rfl ?_
  refine Ml8 (t) rfl (by omega) dX8_space_5 ?_
  refine V.ei (y := nI (r)) hr ?_
  refine V.i2l (v := lN (r)) dX8_space_6 (nI_l (by omega)) ?_
  refine V.aload_n dX8_space_7 rfl rfl ?_
  refine V.bipush (v := nI (8)) dX8_space_8 rfl ?_
  refine V.iload_n dX8_space_10 rfl rfl ?_
  refine V.imul dX8_space_11 ?_
  refine V.ei (pk_mul _ _) ?_
  refine V.iload_n dX8_space_12 rfl rfl ?_
  refine V.iadd dX8_space_13 ?_
  refine V.ei (nI_add _ _) ?_
  refine V.callV0 (c_X8_trueIn _ G o ad sc I J (((8) * (g)) + (t)) L hx hL ok) [.long (lN (r))] 0 9 rfl rfl rfl rfl (goodV kM_X8_169 kI_X8_trueIn kV_X8_trueIn kN_X8 kC_X8_trueIn) ds_X8_trueIn (by decide) (Nat.le_of_ble_eq_true rfl) dX8_space_14 (by decide) (fun u hu => ?_)
  refine V.to (lv' := [(0, .ref (o)), (1, .int (nI (g))), (2, .int (nI (t)))]) (st := [.long (lN (tsum L)), .long (lN (r))]) (pc' := 17) rfl rfl rfl ?_
  refine V.lc_le (tgt := 42) dX8_space_17 dX8_space_18 (by decide) (fun c_1 => ?_) (fun c_1 => ?_)
  · have hc := (pk_lLE (by omega) (by omega)).mp c_1
    refine V.lconst (v := lN 0) dX8_space_42 rfl ?_
    exact V.lret () rfl (by rw [show r - tsum L = 0 by omega]) trivial rfl (by decide) (by decide) dX8_space_43
  · have hc : tsum L < r := by
      rcases Nat.lt_or_ge (tsum L) r with h | h
      · exact h
      · exact absurd ((pk_lLE (by omega) (by omega)).mpr h) c_1
    refine V.aload_n dX8_space_21 rfl rfl ?_
    refine Mg8 rfl dX8_space_22 ?_
    refine V.iload_n dX8_space_25 rfl rfl ?_
    refine Ml8 (t) rfl (by omega) dX8_space_26 ?_
    refine V.ei (y := nI (r)) hr ?_
    refine V.i2l (v := lN (r)) dX8_space_27 (nI_l (by omega)) ?_
    refine V.aload_n dX8_space_28 rfl rfl ?_
    refine V.bipush (v := nI (8)) dX8_space_29 rfl ?_
    refine V.iload_n dX8_space_31 rfl rfl ?_
    refine V.imul dX8_space_32 ?_
    refine V.ei (pk_mul _ _) ?_
    refine V.iload_n dX8_space_33 rfl rfl ?_
    refine V.iadd dX8_space_34 ?_
    refine V.ei (nI_add _ _) ?_
    refine V.callV0 (c_X8_trueIn _ G o ad sc I J (((8) * (g)) + (t)) L hx hL ok) [.long (lN (r))] 0 9 rfl rfl rfl rfl (goodV kM_X8_169 kI_X8_trueIn kV_X8_trueIn kN_X8 kC_X8_trueIn) ds_X8_trueIn (by decide) (Nat.le_of_ble_eq_true rfl) dX8_space_35 (by decide) (fun u hu => ?_)
    refine V.to (lv' := [(0, .ref (o)), (1, .int (nI (g))), (2, .int (nI (t)))]) (st := [.long (lN (tsum L)), .long (lN (r))]) (pc' := 38) rfl rfl rfl ?_
    refine V.lsub dX8_space_38 ?_
    refine V.el (y := lN (r - tsum L)) (lN_sub (by omega)) ?_
    refine V.goto (tgt := 43) dX8_space_39 (by decide) ?_
    exact V.lret () rfl rfl trivial rfl (by decide) (by decide) dX8_space_43
set_option maxHeartbeats 4000000 in
set_option maxRecDepth 20000 in
theorem c_X8_price (l : Launch) (G : GG) (o : Nat) (ad : Nat → Nat) (sc : Int32 × Int32 × Int32) (I : Nat → Nat → Int32) (J : Nat → Nat → Int64) (x t e m : Nat) (ht : t < 8) (hx : x < 16) (he : I 7 t = nI e) (he1 : 1 ≤ e) (he2 : e ≤ 1000) (hm : J 21 x = lN m) (hm2 : m < 2 ^ 60) : Ct l G yX8_price cX8_price 3 (some .long) rm_X8_price [.ref (o), .int (nI (x)), .int (nI (t))] (mw G o ad sc I J) (fun u : Unit => (mw G o ad sc I J)) (fun u : Unit => some (.long (lN (1000 * e / (m + e))))) (fun u : Unit => True) := by
  refine Ct.of (by decide) (Nat.le_of_ble_eq_true rfl) (fun X A hX => ?_)
  subst hX
  refine V.to (lv' := [(0, .ref (o)), (1, .int (nI (x))), (2, .int (nI (t)))]) (st := []) (pc' := 0) rfl rfl rfl ?_
  refine V.ldc2 (v := 1000) kK_X8_146 dX8_price_0 ?_
  refine V.el (y := lN 1000) rfl ?_
  refine V.aload_n dX8_price_3 rfl rfl ?_
  refine Mg7 rfl dX8_price_4 ?_
  refine V.iload_n dX8_price_7 rfl rfl ?_
  refine Ml7 (t) rfl (by omega) dX8_price_8 ?_
  refine V.ei (y := nI (e)) he ?_
  refine V.i2l (v := lN (e)) dX8_price_9 (nI_l (by omega)) ?_
  refine V.lmul dX8_price_10 ?_
  refine V.el (lN_mul _ _) ?_
  refine V.aload_n dX8_price_11 rfl rfl ?_
  refine Mg21 rfl dX8_price_12 ?_
  refine V.iload_n dX8_price_15 rfl rfl ?_
  refine Ml21 (x) rfl (by omega) dX8_price_16 ?_
  refine V.el (y := lN (m)) hm ?_
  refine V.aload_n dX8_price_17 rfl rfl ?_
  refine Mg7 rfl dX8_price_18 ?_
  refine V.iload_n dX8_price_21 rfl rfl ?_
  refine Ml7 (t) rfl (by omega) dX8_price_22 ?_
  refine V.ei (y := nI (e)) he ?_
  refine V.i2l (v := lN (e)) dX8_price_23 (nI_l (by omega)) ?_
  refine V.ladd dX8_price_24 ?_
  refine V.el (lN_add _ _) ?_
  refine V.ldiv dX8_price_25 (fun h => by have := (pk_lEQ (a := m + e) (b := 0) (by omega) (by omega)).mp h; omega) ?_
  refine V.el (y := lN (1000 * e / (m + e))) (pk_lDiv (by omega) (by omega) (by omega)) ?_
  exact V.lret () rfl rfl trivial rfl (by decide) (by decide) dX8_price_26
