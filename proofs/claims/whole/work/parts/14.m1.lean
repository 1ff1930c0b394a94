set_option maxHeartbeats 4000000 in
set_option maxRecDepth 20000 in
theorem c_X8_lies (l : Launch) (G : GG) (v a b : Int64) : Ct l G yX8_lies cX8_lies 6 (some .boolean) rm_X8_lies [.long (v), .long (a), .long (b)] [] (fun u : Unit => []) (fun u : Unit => some (.int (if a ≤ v ∧ v ≤ b then 1 else 0))) (fun u : Unit => True) := by
  refine Ct.of (by decide) (Nat.le_of_ble_eq_true rfl) (fun X A hX => ?_)
  subst hX
  refine V.to (lv' := [(0, .long (v)), (2, .long (a)), (4, .long (b))]) (st := []) (pc' := 0) rfl rfl rfl ?_
  refine V.lload_n dX8_lies_0 rfl rfl ?_
  refine V.lload_n dX8_lies_1 rfl rfl ?_
  refine V.lc_lt (tgt := 17) dX8_lies_2 dX8_lies_3 (by decide) (fun c_1 => ?_) (fun c_1 => ?_)
  · refine V.iconst (v := nI (0)) dX8_lies_17 rfl ?_
    exact V.zret () rfl rfl (by rw [if_neg (fun h => Int64.not_lt.mpr h.1 c_1)]) trivial rfl (by decide) (by decide) dX8_lies_18
  · refine V.lload_n dX8_lies_6 rfl rfl ?_
    refine V.lload dX8_lies_7 rfl ?_
    refine V.lc_gt (tgt := 17) dX8_lies_9 dX8_lies_10 (by decide) (fun c_2 => ?_) (fun c_2 => ?_)
    · refine V.iconst (v := nI (0)) dX8_lies_17 rfl ?_
      exact V.zret () rfl rfl (by rw [if_neg (fun h => Int64.not_lt.mpr h.2 c_2)]) trivial rfl (by decide) (by decide) dX8_lies_18
    · refine V.iconst (v := nI (1)) dX8_lies_13 rfl ?_
      refine V.goto (tgt := 18) dX8_lies_14 (by decide) ?_
      exact V.zret () rfl rfl (by rw [if_pos ⟨Int64.not_lt.mp c_1, Int64.not_lt.mp c_2⟩]) trivial rfl (by decide) (by decide) dX8_lies_18
set_option maxHeartbeats 4000000 in
set_option maxRecDepth 20000 in
theorem c_X8_trueIn (l : Launch) (G : GG) (o : Nat) (ad : Nat → Nat) (sc : Int32 × Int32 × Int32) (I : Nat → Nat → Int32) (J : Nat → Nat → Int64) (x : Nat) (L : List Lt) (hx : x < 16) (hL : rowR I x L) (ok : okL L) : Ct l G yX8_trueIn cX8_trueIn 5 (some .long) rm_X8_trueIn [.ref (o), .int (nI (x))] (mw G o ad sc I J) (fun u : Unit => (mw G o ad sc I J)) (fun u : Unit => some (.long (lN (tsum L)))) (fun u : Unit => True) := by
  refine Ct.of (by decide) (Nat.le_of_ble_eq_true rfl) (fun X A hX => ?_)
  subst hX
  refine V.to (lv' := [(0, .ref (o)), (1, .int (nI (x)))]) (st := []) (pc' := 0) rfl rfl rfl ?_
  have loop : ∀ (d : Nat) (i : Nat) (s : Int64), L.length - i < d → i ≤ L.length → s = lN (tsum (L.take i)) → V G X yX8_trueIn cX8_trueIn 5 (some .long) rm_X8_trueIn A (MZ G X rm_X8_trueIn A (fun u : Unit => (mw G o ad sc I J)) (fun u : Unit => some (.long (lN (tsum L)))) (fun u : Unit => True)) 0 0 (mw G o ad sc I J) [(4, .int (nI (i))), (2, .long (s)), (0, .ref (o)), (1, .int (nI (x)))] 5 [] := by
    intro d
    induction d with
    | zero => intro i s hd; exact absurd hd (Nat.not_lt_zero _)
    | succ d ih =>
      intro i s hd hi hs
      have hn := ok.1
      refine V.iload dX8_trueIn_5 rfl ?_
      refine V.aload_n dX8_trueIn_7 rfl rfl ?_
      refine Mg22 rfl dX8_trueIn_8 ?_
      refine V.iload_n dX8_trueIn_11 rfl rfl ?_
      refine Ml22 (x) rfl (by omega) dX8_trueIn_12 ?_
      refine V.ei hL.1 ?_
      refine V.icmp_ge (tgt := 38) dX8_trueIn_13 (by decide) (fun c_1 => ?_) (fun c_1 => ?_)
      · have hc := (nI_leI (by omega) (by omega)).mp c_1
        have he : i = L.length := by omega
        subst he
        rw [List.take_length] at hs
        subst hs
        refine V.lload_n dX8_trueIn_38 rfl rfl ?_
        exact V.lret () rfl rfl trivial rfl (by decide) (by decide) dX8_trueIn_39
      · have hc : i < L.length := Nat.lt_of_not_le (fun h => c_1 (nI_le h (by omega)))
        obtain ⟨l, hl⟩ := get_lt hc
        have hm := tsum_mem (List.mem_of_getElem? hl)
        have ht := ok.2.1
        refine V.lload_n dX8_trueIn_16 rfl rfl ?_
        refine V.aload_n dX8_trueIn_17 rfl rfl ?_
        refine Mg32 rfl dX8_trueIn_18 ?_
        refine V.bipush (v := nI (40)) dX8_trueIn_21 rfl ?_
        refine V.iload_n dX8_trueIn_23 rfl rfl ?_
        refine V.imul dX8_trueIn_24 ?_
        refine V.ei (pk_mul _ _) ?_
        refine V.iload dX8_trueIn_25 rfl ?_
        refine V.iadd dX8_trueIn_27 ?_
        refine V.ei (nI_add _ _) ?_
        refine Ml32 (((40) * (x)) + (i)) rfl (by omega) dX8_trueIn_28 ?_
        refine V.ei (hL.2 i l hl).2.2.1 ?_
        refine V.i2l (v := lN (l.2.2.1)) dX8_trueIn_29 (nI_l (by omega)) ?_
        refine V.ladd dX8_trueIn_30 ?_
        refine V.lstore_n (lv' := [(2, .long ((s) + (lN (l.2.2.1)))), (4, .int (nI (i))), (0, .ref (o)), (1, .int (nI (x)))]) dX8_trueIn_31 rfl (by decide) rfl ?_
        refine V.iinc (k := 1) (v := nI (i + 1)) (lv' := [(4, .int (nI (i + 1))), (2, .long ((s) + (lN (l.2.2.1)))), (0, .ref (o)), (1, .int (nI (x)))]) dX8_trueIn_32 rfl (iinc1 _) (by decide) rfl ?_
        refine V.goto (tgt := 5) dX8_trueIn_35 (by decide) ?_
        refine V.pick [0, 1, 2, 3] (lv' := [(4, .int (nI (i + 1))), (2, .long ((s) + (lN (l.2.2.1)))), (0, .ref (o)), (1, .int (nI (x)))]) rfl ?_; exact ih (i + 1) _ (by omega) (by omega) (by rw [tsum_take hl, hs, lN_add])
  refine V.lconst (v := lN 0) dX8_trueIn_0 rfl ?_
  refine V.lstore_n (lv' := [(2, .long (lN (0))), (0, .ref (o)), (1, .int (nI (x)))]) dX8_trueIn_1 rfl (by decide) rfl ?_
  refine V.iconst (v := nI (0)) dX8_trueIn_2 rfl ?_
  refine V.istore (lv' := [(4, .int (nI (0))), (2, .long (lN (0))), (0, .ref (o)), (1, .int (nI (x)))]) dX8_trueIn_3 (by decide) rfl ?_
  refine V.pick [0, 1, 2, 3] (lv' := [(4, .int (nI (0))), (2, .long (lN (0))), (0, .ref (o)), (1, .int (nI (x)))]) rfl ?_; exact loop (L.length + 1) 0 _ (by omega) (by omega) (by simp [tsum])
