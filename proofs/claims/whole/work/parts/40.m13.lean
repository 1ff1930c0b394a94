set_option maxHeartbeats 4000000 in
set_option maxRecDepth 20000 in
theorem c_X8_push (l : Launch) (G : GG) (o : Nat) (ad : Nat → Nat) (sc : Int32 × Int32 × Int32) (I : Nat → Nat → Int32) (J : Nat → Nat → Int64) (v : Int32) (tp : List Nat) (h : sc.1 = nI tp.length) (hl : tp.length ≤ 56) (ht : tpR I tp) : Ct l G yX8_push cX8_push 3 none rm_X8_push [.ref (o), .int (v)] (mw G o ad sc I J) (fun u : Nat → Nat → Int32 => mw G o ad (nI (tp.length + 4), sc.2.1, sc.2.2) u J) (fun u : Nat → Nat → Int32 => none) (fun u : Nat → Nat → Int32 => tpR u (tp ++ wb v) ∧ fr (fun k j => k = 0) I u) := by
  refine Ct.of (by decide) (Nat.le_of_ble_eq_true rfl) (fun X A hX => ?_)
  subst hX
  refine V.to (lv' := [(0, .ref (o)), (1, .int (v))]) (st := []) (pc' := 0) rfl rfl rfl ?_
  refine V.bipush (v := nI (24)) dX8_push_0 rfl ?_
  refine V.istore_n (lv' := [(2, .int (nI (24))), (0, .ref (o)), (1, .int (v))]) dX8_push_2 rfl (by decide) rfl ?_
  refine V.iload_n dX8_push_3 rfl rfl ?_
  refine V.if_lt (tgt := 36) dX8_push_4 (by decide) (fun c_1 => ?_) (fun c_1 => ?_)
  · exact absurd c_1 (by decide)
  · refine V.aload_n dX8_push_7 rfl rfl ?_
    refine Mg0 rfl dX8_push_8 ?_
    refine V.aload_n dX8_push_11 rfl rfl ?_
    refine Mg1 rfl dX8_push_12 ?_
    refine V.ei (y := nI (tp.length)) h ?_
    refine V.iload_n dX8_push_15 rfl rfl ?_
    refine V.iload_n dX8_push_16 rfl rfl ?_
    refine V.ishr dX8_push_17 ?_
    refine V.i2b dX8_push_18 rfl ?_
    refine V.ei (y := (nI (wbk v 24)).toInt8.toInt32) (sh8 (k := 24) (by omega) rfl) ?_
    refine Ms0 (tp.length) rfl (by omega) dX8_push_19 ?_
    refine V.aload_n dX8_push_20 rfl rfl ?_
    refine V.dup dX8_push_21 rfl ?_
    refine Mg1 rfl dX8_push_22 ?_
    refine V.ei (y := nI (tp.length)) h ?_
    refine V.iconst (v := nI (1)) dX8_push_25 rfl ?_
    refine V.iadd dX8_push_26 ?_
    refine V.ei (nI_add _ _) ?_
    refine Mp1 rfl dX8_push_27 ?_
    refine V.iinc (k := 0) (v := nI (16)) (lv' := [(2, .int (nI (16))), (0, .ref (o)), (1, .int (v))]) dX8_push_30 rfl rfl (by decide) rfl ?_
    refine V.goto (tgt := 3) dX8_push_33 (by decide) ?_
    refine V.iload_n dX8_push_3 rfl rfl ?_
    refine V.if_lt (tgt := 36) dX8_push_4 (by decide) (fun c_2 => ?_) (fun c_2 => ?_)
    · exact absurd c_2 (by decide)
    · refine V.aload_n dX8_push_7 rfl rfl ?_
      refine Mg0 rfl dX8_push_8 ?_
      refine V.aload_n dX8_push_11 rfl rfl ?_
      refine Mg1 rfl dX8_push_12 ?_
      refine V.ei (y := nI ((tp.length) + (1))) rfl ?_
      refine V.iload_n dX8_push_15 rfl rfl ?_
      refine V.iload_n dX8_push_16 rfl rfl ?_
      refine V.ishr dX8_push_17 ?_
      refine V.i2b dX8_push_18 rfl ?_
      refine V.ei (y := (nI (wbk v 16)).toInt8.toInt32) (sh8 (k := 16) (by omega) rfl) ?_
      refine Ms0 ((tp.length) + (1)) rfl (by omega) dX8_push_19 ?_
      refine V.aload_n dX8_push_20 rfl rfl ?_
      refine V.dup dX8_push_21 rfl ?_
      refine Mg1 rfl dX8_push_22 ?_
      refine V.ei (y := nI ((tp.length) + (1))) rfl ?_
      refine V.iconst (v := nI (1)) dX8_push_25 rfl ?_
      refine V.iadd dX8_push_26 ?_
      refine V.ei (nI_add _ _) ?_
      refine Mp1 rfl dX8_push_27 ?_
      refine V.iinc (k := 0) (v := nI (8)) (lv' := [(2, .int (nI (8))), (0, .ref (o)), (1, .int (v))]) dX8_push_30 rfl rfl (by decide) rfl ?_
      refine V.goto (tgt := 3) dX8_push_33 (by decide) ?_
      refine V.iload_n dX8_push_3 rfl rfl ?_
      refine V.if_lt (tgt := 36) dX8_push_4 (by decide) (fun c_3 => ?_) (fun c_3 => ?_)
      · exact absurd c_3 (by decide)
      · refine V.aload_n dX8_push_7 rfl rfl ?_
        refine Mg0 rfl dX8_push_8 ?_
        refine V.aload_n dX8_push_11 rfl rfl ?_
        refine Mg1 rfl dX8_push_12 ?_
        refine V.ei (y := nI (((tp.length) + (1)) + (1))) rfl ?_
        refine V.iload_n dX8_push_15 rfl rfl ?_
        refine V.iload_n dX8_push_16 rfl rfl ?_
        refine V.ishr dX8_push_17 ?_
        refine V.i2b dX8_push_18 rfl ?_
        refine V.ei (y := (nI (wbk v 8)).toInt8.toInt32) (sh8 (k := 8) (by omega) rfl) ?_
        refine Ms0 (((tp.length) + (1)) + (1)) rfl (by omega) dX8_push_19 ?_
        refine V.aload_n dX8_push_20 rfl rfl ?_
        refine V.dup dX8_push_21 rfl ?_
        refine Mg1 rfl dX8_push_22 ?_
        refine V.ei (y := nI (((tp.length) + (1)) + (1))) rfl ?_
        refine V.iconst (v := nI (1)) dX8_push_25 rfl ?_
        refine V.iadd dX8_push_26 ?_
        refine V.ei (nI_add _ _) ?_
        refine Mp1 rfl dX8_push_27 ?_
        refine V.iinc (k := 0) (v := nI (0)) (lv' := [(2, .int (nI (0))), (0, .ref (o)), (1, .int (v))]) dX8_push_30 rfl rfl (by decide) rfl ?_
        refine V.goto (tgt := 3) dX8_push_33 (by decide) ?_
        refine V.iload_n dX8_push_3 rfl rfl ?_
        refine V.if_lt (tgt := 36) dX8_push_4 (by decide) (fun c_4 => ?_) (fun c_4 => ?_)
        · exact absurd c_4 (by decide)
        · refine V.aload_n dX8_push_7 rfl rfl ?_
          refine Mg0 rfl dX8_push_8 ?_
          refine V.aload_n dX8_push_11 rfl rfl ?_
          refine Mg1 rfl dX8_push_12 ?_
          refine V.ei (y := nI ((((tp.length) + (1)) + (1)) + (1))) rfl ?_
          refine V.iload_n dX8_push_15 rfl rfl ?_
          refine V.iload_n dX8_push_16 rfl rfl ?_
          refine V.ishr dX8_push_17 ?_
          refine V.i2b dX8_push_18 rfl ?_
          refine V.ei (y := (nI (wbk v 0)).toInt8.toInt32) (sh8 (k := 0) (by omega) rfl) ?_
          refine Ms0 ((((tp.length) + (1)) + (1)) + (1)) rfl (by omega) dX8_push_19 ?_
          refine V.aload_n dX8_push_20 rfl rfl ?_
          refine V.dup dX8_push_21 rfl ?_
          refine Mg1 rfl dX8_push_22 ?_
          refine V.ei (y := nI ((((tp.length) + (1)) + (1)) + (1))) rfl ?_
          refine V.iconst (v := nI (1)) dX8_push_25 rfl ?_
          refine V.iadd dX8_push_26 ?_
          refine V.ei (nI_add _ _) ?_
          refine Mp1 rfl dX8_push_27 ?_
          refine V.iinc (k := 0) (v := -8) (lv' := [(2, .int (-8)), (0, .ref (o)), (1, .int (v))]) dX8_push_30 rfl rfl (by decide) rfl ?_
          refine V.goto (tgt := 3) dX8_push_33 (by decide) ?_
          refine V.iload_n dX8_push_3 rfl rfl ?_
          refine V.if_lt (tgt := 36) dX8_push_4 (by decide) (fun c_5 => ?_) (fun c_5 => ?_)
          · exact V.vret (up2 (up2 (up2 (up2 I 0 (tp.length) ((vp_nar .byte ((nI (wbk v 24)).toInt8.toInt32)))) 0 ((tp.length) + (1)) ((vp_nar .byte ((nI (wbk v 16)).toInt8.toInt32)))) 0 (((tp.length) + (1)) + (1)) ((vp_nar .byte ((nI (wbk v 8)).toInt8.toInt32)))) 0 ((((tp.length) + (1)) + (1)) + (1)) ((vp_nar .byte ((nI (wbk v 0)).toInt8.toInt32)))) rfl rfl ⟨by rw [show tp ++ wb v = (((tp ++ [wbk v 24]) ++ [wbk v 16]) ++ [wbk v 8]) ++ [wbk v 0] by simp [wb]]; exact tp_push (tp_push (tp_push (tp_push ht rfl (nar8 _)) (by simp) (nar8 _)) (by simp) (nar8 _)) (by simp) (nar8 _), (((fr.up (P := fun k j => k = 0) rfl).tr (fr.up rfl)).tr (fr.up rfl)).tr (fr.up rfl)⟩ rfl (by decide) (by decide) dX8_push_36
          · exact absurd (by decide) c_5
set_option maxHeartbeats 4000000 in
set_option maxRecDepth 20000 in
theorem c_X8_feed (l : Launch) (G : GG) (o : Nat) (ad : Nat → Nat) (sc : Int32 × Int32 × Int32) (I : Nat → Nat → Int32) (J : Nat → Nat → Int64) (B : Nat) (tp : List Nat) (nx : Nat → Nat) (tn rn : Nat) (E R Hv : Nat → Nat) (mo co : Nat) (C : List Cr) (T : Nat → ST) (rd : Nat → Rd) (hm : mrep sc I J tp nx tn rn E R Hv mo co C T rd) (hv : sinv B tp nx tn rn E R Hv mo co C T rd) (hB : B ≤ 2 ^ 47) (a b c d e : Int32) : Ct l G yX8_feed cX8_feed 6 (some .int) rm_X8_feed [.ref (o), .int (a), .int (b), .int (c), .int (d), .int (e)] (mw G o ad sc I J) (fun u : (Int32 × Int32 × Int32) × (Nat → Nat → Int32) × (Nat → Nat → Int64) => mw G o ad u.1 u.2.1 u.2.2) (fun u : (Int32 × Int32 × Int32) × (Nat → Nat → Int32) × (Nat → Nat → Int64) => some (.int (if tp.length + 20 ≤ 60 then nI (tp.length + 20) else -1))) (fun u : (Int32 × Int32 × Int32) × (Nat → Nat → Int32) × (Nat → Nat → Int64) => mrep u.1 u.2.1 u.2.2 (if tp.length + 20 ≤ 60 then (tp ++ wb a ++ wb b ++ wb c ++ wb d ++ wb e) else tp) nx tn rn E R Hv mo co C T rd) := by
  refine Ct.of (by decide) (Nat.le_of_ble_eq_true rfl) (fun X A hX => ?_)
  subst hX
  refine V.to (lv' := [(0, .ref (o)), (1, .int (a)), (2, .int (b)), (3, .int (c)), (4, .int (d)), (5, .int (e))]) (st := []) (pc' := 0) rfl rfl rfl ?_
  obtain ⟨m0, m1, m2, m3, m4, m5, m6, m7, m8, m9, m10, m11, m12, m13⟩ := id hm
  obtain ⟨⟨v0, v1⟩, ⟨v2, v3⟩, ⟨v4, v5⟩, ⟨v6, v7, v8, v9⟩, ⟨v10, v11⟩, ⟨v12, v13⟩, ⟨v14, v15⟩, v16, v17⟩ := id hv
  refine V.aload_n dX8_feed_0 rfl rfl ?_
  refine Mg1 rfl dX8_feed_1 ?_
  refine V.ei (y := nI (tp.length)) m0 ?_
  refine V.bipush (v := nI (20)) dX8_feed_4 rfl ?_
  refine V.iadd dX8_feed_6 ?_
  refine V.ei (nI_add _ _) ?_
  refine V.bipush (v := nI (60)) dX8_feed_7 rfl ?_
  refine V.icmp_le (tgt := 14) dX8_feed_9 (by decide) (fun c_1 => ?_) (fun c_1 => ?_)
  · have p := (nI_leI (by omega) (by omega)).mp c_1
    refine V.aload_n dX8_feed_14 rfl rfl ?_
    refine V.iload_n dX8_feed_15 rfl rfl ?_
    refine V.callV0 (c_X8_push _ G o ad sc I J a tp m0 (by omega) m1) [] 0 9 rfl rfl rfl rfl (goodV kM_X8_114 kI_X8_push kV_X8_push kN_X8 kC_X8_push) ds_X8_push (by decide) (Nat.le_of_ble_eq_true rfl) dX8_feed_16 (by decide) (fun u1 hu1 => ?_)
    refine V.wd (ws' := mw G o ad (nI (tp.length + 4), sc.2.1, sc.2.2) u1 J) (by simp [wb]) ?_
    refine V.to (lv' := [(0, .ref (o)), (1, .int (a)), (2, .int (b)), (3, .int (c)), (4, .int (d)), (5, .int (e))]) (st := []) (pc' := 19) rfl rfl rfl ?_
    refine V.aload_n dX8_feed_19 rfl rfl ?_
    refine V.iload_n dX8_feed_20 rfl rfl ?_
    refine V.callV0 (c_X8_push _ G o ad (nI (tp.length + 4), sc.2.1, sc.2.2) u1 J b (tp ++ wb a) (by show nI _ = nI _; congr 1; simp [wb]) (by simp [wb]; omega) hu1.1) [] 0 9 rfl rfl rfl rfl (goodV kM_X8_114 kI_X8_push kV_X8_push kN_X8 kC_X8_push) ds_X8_push (by decide) (Nat.le_of_ble_eq_true rfl) dX8_feed_21 (by decide) (fun u2 hu2 => ?_)
    refine V.wd (ws' := mw G o ad (nI (tp.length + 8), sc.2.1, sc.2.2) u2 J) (by simp [wb]) ?_
    refine V.to (lv' := [(0, .ref (o)), (1, .int (a)), (2, .int (b)), (3, .int (c)), (4, .int (d)), (5, .int (e))]) (st := []) (pc' := 24) rfl rfl rfl ?_
    refine V.aload_n dX8_feed_24 rfl rfl ?_
    refine V.iload_n dX8_feed_25 rfl rfl ?_
    refine V.callV0 (c_X8_push _ G o ad (nI (tp.length + 8), sc.2.1, sc.2.2) u2 J c (tp ++ wb a ++ wb b) (by show nI _ = nI _; congr 1; simp [wb]) (by simp [wb]; omega) hu2.1) [] 0 9 rfl rfl rfl rfl (goodV kM_X8_114 kI_X8_push kV_X8_push kN_X8 kC_X8_push) ds_X8_push (by decide) (Nat.le_of_ble_eq_true rfl) dX8_feed_26 (by decide) (fun u3 hu3 => ?_)
    refine V.wd (ws' := mw G o ad (nI (tp.length + 12), sc.2.1, sc.2.2) u3 J) (by simp [wb]) ?_
    refine V.to (lv' := [(0, .ref (o)), (1, .int (a)), (2, .int (b)), (3, .int (c)), (4, .int (d)), (5, .int (e))]) (st := []) (pc' := 29) rfl rfl rfl ?_
    refine V.aload_n dX8_feed_29 rfl rfl ?_
    refine V.iload dX8_feed_30 rfl ?_
    refine V.callV0 (c_X8_push _ G o ad (nI (tp.length + 12), sc.2.1, sc.2.2) u3 J d (tp ++ wb a ++ wb b ++ wb c) (by show nI _ = nI _; congr 1; simp [wb]) (by simp [wb]; omega) hu3.1) [] 0 9 rfl rfl rfl rfl (goodV kM_X8_114 kI_X8_push kV_X8_push kN_X8 kC_X8_push) ds_X8_push (by decide) (Nat.le_of_ble_eq_true rfl) dX8_feed_32 (by decide) (fun u4 hu4 => ?_)
    refine V.wd (ws' := mw G o ad (nI (tp.length + 16), sc.2.1, sc.2.2) u4 J) (by simp [wb]) ?_
    refine V.to (lv' := [(0, .ref (o)), (1, .int (a)), (2, .int (b)), (3, .int (c)), (4, .int (d)), (5, .int (e))]) (st := []) (pc' := 35) rfl rfl rfl ?_
    refine V.aload_n dX8_feed_35 rfl rfl ?_
    refine V.iload dX8_feed_36 rfl ?_
    refine V.callV0 (c_X8_push _ G o ad (nI (tp.length + 16), sc.2.1, sc.2.2) u4 J e (tp ++ wb a ++ wb b ++ wb c ++ wb d) (by show nI _ = nI _; congr 1; simp [wb]) (by simp [wb]; omega) hu4.1) [] 0 9 rfl rfl rfl rfl (goodV kM_X8_114 kI_X8_push kV_X8_push kN_X8 kC_X8_push) ds_X8_push (by decide) (Nat.le_of_ble_eq_true rfl) dX8_feed_38 (by decide) (fun u5 hu5 => ?_)
    refine V.wd (ws' := mw G o ad (nI (tp.length + 20), sc.2.1, sc.2.2) u5 J) (by simp [wb]) ?_
    refine V.to (lv' := [(0, .ref (o)), (1, .int (a)), (2, .int (b)), (3, .int (c)), (4, .int (d)), (5, .int (e))]) (st := []) (pc' := 41) rfl rfl rfl ?_
    refine V.aload_n dX8_feed_41 rfl rfl ?_
    refine Mg1 rfl dX8_feed_42 ?_
    have hacc : tp.length + 20 ≤ 60 := p
    exact V.iret ((nI (tp.length + 20), sc.2.1, sc.2.2), u5, J) rfl (by simp only [if_pos hacc]) (by simp only [if_pos hacc]; exact mrep_tape hm (by show nI _ = nI _; congr 1; simp [wb]) hu5.1 (((((hu1.2.tr hu2.2).tr hu3.2).tr hu4.2).tr hu5.2)) (fun t ht => (v14 t ht).1) v12) rfl (by decide) (by decide) dX8_feed_45
  · have p : ¬ tp.length + 20 ≤ 60 := fun z => c_1 (nI_le z (by omega))
    refine V.iconst (v := -1) dX8_feed_12 (by decide) ?_
    have hacc : ¬ (tp.length + 20 ≤ 60) := p
    exact V.iret (sc, I, J) rfl (by simp only [if_neg hacc]) (by simp only [if_neg hacc]; exact hm) rfl (by decide) (by decide) dX8_feed_13
set_option maxHeartbeats 4000000 in
set_option maxRecDepth 20000 in
theorem c_X8_letter (l : Launch) (G : GG) (c : Int32) : Ct l G yX8_letter cX8_letter 1 (some .int) rm_X8_letter [.int (c)] [] (fun u : Unit => []) (fun u : Unit => some (.int (letA c))) (fun u : Unit => True) := by
  refine Ct.of (by decide) (Nat.le_of_ble_eq_true rfl) (fun X A hX => ?_)
  subst hX
  refine V.to (lv' := [(0, .int (c))]) (st := []) (pc' := 0) rfl rfl rfl ?_
  refine V.iload_n dX8_letter_0 rfl rfl ?_
  by_cases hc : ∃ k : Nat, k < 19 ∧ c = nI (97 + k)
  · obtain ⟨k, hk, rfl⟩ := hc
    rcases k with _ | _ | _ | _ | _ | _ | _ | _ | _ | _ | _ | _ | _ | _ | _ | _ | _ | _ | _ | k
    · refine V.tableIn (off := 101) (tgt := 102) dX8_letter_1 (by decide) (by decide) (by decide) (by decide) ?_
      refine V.iconst (v := nI (5)) dX8_letter_102 rfl ?_
      exact V.iret () rfl (by decide) trivial rfl (by decide) (by decide) dX8_letter_103
    · refine V.tableIn (off := 91) (tgt := 92) dX8_letter_1 (by decide) (by decide) (by decide) (by decide) ?_
      refine V.iconst (v := nI (0)) dX8_letter_92 rfl ?_
      exact V.iret () rfl (by decide) trivial rfl (by decide) (by decide) dX8_letter_93
    · refine V.tableIn (off := 109) (tgt := 110) dX8_letter_1 (by decide) (by decide) (by decide) (by decide) ?_
      refine V.iconst (v := -1) dX8_letter_110 (by decide) ?_
      exact V.iret () rfl (by decide) trivial rfl (by decide) (by decide) dX8_letter_111
    · refine V.tableIn (off := 109) (tgt := 110) dX8_letter_1 (by decide) (by decide) (by decide) (by decide) ?_
      refine V.iconst (v := -1) dX8_letter_110 (by decide) ?_
      exact V.iret () rfl (by decide) trivial rfl (by decide) (by decide) dX8_letter_111
    · refine V.tableIn (off := 109) (tgt := 110) dX8_letter_1 (by decide) (by decide) (by decide) (by decide) ?_
      refine V.iconst (v := -1) dX8_letter_110 (by decide) ?_
      exact V.iret () rfl (by decide) trivial rfl (by decide) (by decide) dX8_letter_111
    · refine V.tableIn (off := 109) (tgt := 110) dX8_letter_1 (by decide) (by decide) (by decide) (by decide) ?_
      refine V.iconst (v := -1) dX8_letter_110 (by decide) ?_
      exact V.iret () rfl (by decide) trivial rfl (by decide) (by decide) dX8_letter_111
    · refine V.tableIn (off := 109) (tgt := 110) dX8_letter_1 (by decide) (by decide) (by decide) (by decide) ?_
      refine V.iconst (v := -1) dX8_letter_110 (by decide) ?_
      exact V.iret () rfl (by decide) trivial rfl (by decide) (by decide) dX8_letter_111
    · refine V.tableIn (off := 109) (tgt := 110) dX8_letter_1 (by decide) (by decide) (by decide) (by decide) ?_
      refine V.iconst (v := -1) dX8_letter_110 (by decide) ?_
      exact V.iret () rfl (by decide) trivial rfl (by decide) (by decide) dX8_letter_111
    · refine V.tableIn (off := 109) (tgt := 110) dX8_letter_1 (by decide) (by decide) (by decide) (by decide) ?_
      refine V.iconst (v := -1) dX8_letter_110 (by decide) ?_
      exact V.iret () rfl (by decide) trivial rfl (by decide) (by decide) dX8_letter_111
    · refine V.tableIn (off := 109) (tgt := 110) dX8_letter_1 (by decide) (by decide) (by decide) (by decide) ?_
      refine V.iconst (v := -1) dX8_letter_110 (by decide) ?_
      exact V.iret () rfl (by decide) trivial rfl (by decide) (by decide) dX8_letter_111
    · refine V.tableIn (off := 109) (tgt := 110) dX8_letter_1 (by decide) (by decide) (by decide) (by decide) ?_
      refine V.iconst (v := -1) dX8_letter_110 (by decide) ?_
      exact V.iret () rfl (by decide) trivial rfl (by decide) (by decide) dX8_letter_111
    · refine V.tableIn (off := 99) (tgt := 100) dX8_letter_1 (by decide) (by decide) (by decide) (by decide) ?_
      refine V.iconst (v := nI (4)) dX8_letter_100 rfl ?_
      exact V.iret () rfl (by decide) trivial rfl (by decide) (by decide) dX8_letter_101
    · refine V.tableIn (off := 97) (tgt := 98) dX8_letter_1 (by decide) (by decide) (by decide) (by decide) ?_
      refine V.iconst (v := nI (3)) dX8_letter_98 rfl ?_
      exact V.iret () rfl (by decide) trivial rfl (by decide) (by decide) dX8_letter_99
    · refine V.tableIn (off := 93) (tgt := 94) dX8_letter_1 (by decide) (by decide) (by decide) (by decide) ?_
      refine V.iconst (v := nI (1)) dX8_letter_94 rfl ?_
      exact V.iret () rfl (by decide) trivial rfl (by decide) (by decide) dX8_letter_95
    · refine V.tableIn (off := 106) (tgt := 107) dX8_letter_1 (by decide) (by decide) (by decide) (by decide) ?_
      refine V.bipush (v := nI (7)) dX8_letter_107 rfl ?_
      exact V.iret () rfl (by decide) trivial rfl (by decide) (by decide) dX8_letter_109
    · refine V.tableIn (off := 103) (tgt := 104) dX8_letter_1 (by decide) (by decide) (by decide) (by decide) ?_
      refine V.bipush (v := nI (6)) dX8_letter_104 rfl ?_
      exact V.iret () rfl (by decide) trivial rfl (by decide) (by decide) dX8_letter_106
    · refine V.tableIn (off := 109) (tgt := 110) dX8_letter_1 (by decide) (by decide) (by decide) (by decide) ?_
      refine V.iconst (v := -1) dX8_letter_110 (by decide) ?_
      exact V.iret () rfl (by decide) trivial rfl (by decide) (by decide) dX8_letter_111
    · refine V.tableIn (off := 109) (tgt := 110) dX8_letter_1 (by decide) (by decide) (by decide) (by decide) ?_
      refine V.iconst (v := -1) dX8_letter_110 (by decide) ?_
      exact V.iret () rfl (by decide) trivial rfl (by decide) (by decide) dX8_letter_111
    · refine V.tableIn (off := 95) (tgt := 96) dX8_letter_1 (by decide) (by decide) (by decide) (by decide) ?_
      refine V.iconst (v := nI (2)) dX8_letter_96 rfl ?_
      exact V.iret () rfl (by decide) trivial rfl (by decide) (by decide) dX8_letter_97
    · omega
  · have hout : c.toInt < 97 ∨ 115 < c.toInt := by
      rcases Int.lt_or_le c.toInt 97 with z | z
      · exact Or.inl z
      · rcases Int.lt_or_le 115 c.toInt with y | y
        · exact Or.inr y
        · exact absurd ⟨c.toInt.toNat - 97, by omega, by rw [show 97 + (c.toInt.toNat - 97) = c.toInt.toNat by omega]; exact ti_nI (by omega)⟩ hc
    have hk8 : letK c = 8 := by simp only [letK]; repeat rw [if_neg (by omega)]
    refine V.tableOut (tgt := 110) dX8_letter_1 hout (by decide) ?_
    refine V.iconst (v := -1) dX8_letter_110 (by decide) ?_
    exact V.iret () rfl (by rw [letA, hk8]; rfl) trivial rfl (by decide) (by decide) dX8_letter_111
set_option maxHeartbeats 4000000 in
set_option maxRecDepth 20000 in
theorem c_X8_canBe (l : Launch) (G : GG) (k v : Nat) (hk : k < 8) (hv : v ≤ 9999) : Ct l G yX8_canBe cX8_canBe 2 (some .boolean) rm_X8_canBe [.int (nI (k)), .int (nI (v))] [] (fun u : Unit => []) (fun u : Unit => some (.int (if can k v then 1 else 0))) (fun u : Unit => True) := by
  refine Ct.of (by decide) (Nat.le_of_ble_eq_true rfl) (fun X A hX => ?_)
  subst hX
  refine V.to (lv' := [(0, .int (nI (k))), (1, .int (nI (v)))]) (st := []) (pc' := 0) rfl rfl rfl ?_
  refine V.iload_n dX8_canBe_0 rfl rfl ?_
  refine V.iconst (v := nI (4)) dX8_canBe_1 rfl ?_
  refine V.icmp_ne (tgt := 19) dX8_canBe_2 (by decide) (fun c_1 => ?_) (fun c_1 => ?_)
  · have h2 : ¬ k = 4 := fun z => c_1 (by rw [z])
    refine V.iload_n dX8_canBe_19 rfl rfl ?_
    refine V.iconst (v := nI (5)) dX8_canBe_20 rfl ?_
    refine V.icmp_ne (tgt := 36) dX8_canBe_21 (by decide) (fun c_2 => ?_) (fun c_2 => ?_)
    · have h21 : ¬ k = 5 := fun z => c_2 (by rw [z])
      refine V.iload_n dX8_canBe_36 rfl rfl ?_
      refine V.bipush (v := nI (6)) dX8_canBe_37 rfl ?_
      refine V.icmp_ne (tgt := 48) dX8_canBe_39 (by decide) (fun c_3 => ?_) (fun c_3 => ?_)
      · have h39 : ¬ k = 6 := fun z => c_3 (by rw [z])
        refine V.iconst (v := nI (1)) dX8_canBe_48 rfl ?_
        refine V.goto (tgt := 53) dX8_canBe_49 (by decide) ?_
        exact V.zret () rfl rfl (by rw [if_pos (by simp only [can]; omega)]; rfl) trivial rfl (by decide) (by decide) dX8_canBe_53
      · have h39 : k = 6 := (nI_eq (by omega) (by omega)).mp c_3
        refine V.iload_n dX8_canBe_42 rfl rfl ?_
        refine V.bipush (v := nI (100)) dX8_canBe_43 rfl ?_
        refine V.icmp_gt (tgt := 52) dX8_canBe_45 (by decide) (fun c_4 => ?_) (fun c_4 => ?_)
        · have hl : 100 < v := (nI_ltI (by omega) (by omega)).mp c_4
          refine V.iconst (v := nI (0)) dX8_canBe_52 rfl ?_
          exact V.zret () rfl rfl (by rw [if_neg (by simp only [can]; omega)]; rfl) trivial rfl (by decide) (by decide) dX8_canBe_53
        · have hl : ¬ 100 < v := fun z => c_4 ((nI_ltI (by omega) (by omega)).mpr z)
          refine V.iconst (v := nI (1)) dX8_canBe_48 rfl ?_
          refine V.goto (tgt := 53) dX8_canBe_49 (by decide) ?_
          exact V.zret () rfl rfl (by rw [if_pos (by simp only [can]; omega)]; rfl) trivial rfl (by decide) (by decide) dX8_canBe_53
    · have h21 : k = 5 := (nI_eq (by omega) (by omega)).mp c_2
      refine V.iload_n dX8_canBe_24 rfl rfl ?_
      refine V.i2l (v := lN (v)) dX8_canBe_25 (nI_l (by omega)) ?_
      refine V.lconst (v := lN 1) dX8_canBe_26 rfl ?_
      refine V.ldc2 (v := 999) kK_X8_118 dX8_canBe_27 ?_
      refine V.el (y := lN 999) rfl ?_
      refine V.callSE (c_X8_lies _ G (lN (v)) (lN (1)) (lN (999))) [] rfl (goodS kM_X8_120 kS_X8_lies kN_X8 kC_X8_lies) ds_X8_lies (by decide) (Nat.le_of_ble_eq_true rfl) dX8_canBe_30 (by decide) (fun u hu => ?_)
      refine V.to (lv' := [(0, .int (nI (k))), (1, .int (nI (v)))]) (st := [.int (if lN (1) ≤ lN (v) ∧ lN (v) ≤ lN (999) then 1 else 0)]) (pc' := 33) rfl rfl rfl ?_
      refine V.ei (y := if can k v then 1 else 0) (can5 (by omega) h21) ?_
      refine V.goto (tgt := 53) dX8_canBe_33 (by decide) ?_
      exact V.zret () rfl narB rfl trivial rfl (by decide) (by decide) dX8_canBe_53
  · have h2 : k = 4 := (nI_eq (by omega) (by omega)).mp c_1
    refine V.iload_n dX8_canBe_5 rfl rfl ?_
    refine V.bipush (v := nI (100)) dX8_canBe_6 rfl ?_
    refine V.icmp_lt (tgt := 15) dX8_canBe_8 (by decide) (fun c_5 => ?_) (fun c_5 => ?_)
    · have hl : v < 100 := (nI_ltI (by omega) (by omega)).mp c_5
      refine V.iconst (v := nI (0)) dX8_canBe_15 rfl ?_
      refine V.goto (tgt := 53) dX8_canBe_16 (by decide) ?_
      exact V.zret () rfl rfl (by rw [if_neg (by simp only [can]; omega)]; rfl) trivial rfl (by decide) (by decide) dX8_canBe_53
    · have hl : ¬ v < 100 := fun z => c_5 ((nI_ltI (by omega) (by omega)).mpr z)
      refine V.iconst (v := nI (1)) dX8_canBe_11 rfl ?_
      refine V.goto (tgt := 53) dX8_canBe_12 (by decide) ?_
      exact V.zret () rfl rfl (by rw [if_pos (by simp only [can]; omega)]; rfl) trivial rfl (by decide) (by decide) dX8_canBe_53
set_option maxHeartbeats 4000000 in
set_option maxRecDepth 20000 in
theorem c_X8_at (l : Launch) (G : GG) (o : Nat) (ad : Nat → Nat) (sc : Int32 × Int32 × Int32) (I : Nat → Nat → Int32) (J : Nat → Nat → Int64) (k n : Nat) (tp : List Nat) (ht : tpR I tp) (hl : tp.length ≤ 60) (hb : ∀ b ∈ tp, b < 256) (hn : n ≤ tp.length) (hk : k ≤ 1000) : Ct l G yX8_at cX8_at 3 (some .int) rm_X8_at [.ref (o), .int (nI (k)), .int (nI (n))] (mw G o ad sc I J) (fun u : Unit => (mw G o ad sc I J)) (fun u : Unit => some (.int (nI (byt tp n k)))) (fun u : Unit => True) := by
  refine Ct.of (by decide) (Nat.le_of_ble_eq_true rfl) (fun X A hX => ?_)
  subst hX
  refine V.to (lv' := [(0, .ref (o)), (1, .int (nI (k))), (2, .int (nI (n)))]) (st := []) (pc' := 0) rfl rfl rfl ?_
  refine V.iload_n dX8_at_0 rfl rfl ?_
  refine V.iload_n dX8_at_1 rfl rfl ?_
  refine V.icmp_ge (tgt := 18) dX8_at_2 (by decide) (fun c_1 => ?_) (fun c_1 => ?_)
  · have p := (nI_leI (by omega) (by omega)).mp c_1
    refine V.iconst (v := nI (0)) dX8_at_18 rfl ?_
    exact V.iret () rfl (by rw [byt, if_neg (by omega)]) trivial rfl (by decide) (by decide) dX8_at_19
  · have p : k < n := by
      rcases Nat.lt_or_ge k n with z | z
      · exact z
      · exact absurd (nI_le z (by omega)) c_1
    have hg : tp[k]? = some (byt tp n k) := by rw [byt, if_pos p, List.getD_eq_getElem?_getD, List.getElem?_eq_getElem (show k < tp.length by omega)]; rfl
    have hbb : byt tp n k < 256 := hb _ (List.mem_of_getElem? hg)
    refine V.aload_n dX8_at_5 rfl rfl ?_
    refine Mg0 rfl dX8_at_6 ?_
    refine V.iload_n dX8_at_9 rfl rfl ?_
    refine Ml0 (k) rfl (by omega) dX8_at_10 ?_
    refine V.ei (y := (nI (byt tp n k)).toInt8.toInt32) (ht k _ hg) ?_
    refine V.sipush (v := nI (255)) dX8_at_11 rfl ?_
    refine V.iand dX8_at_14 ?_
    refine V.ei (y := nI (byt tp n k)) (byte_at hbb) ?_
    refine V.goto (tgt := 19) dX8_at_15 (by decide) ?_
    exact V.iret () rfl rfl trivial rfl (by decide) (by decide) dX8_at_19
