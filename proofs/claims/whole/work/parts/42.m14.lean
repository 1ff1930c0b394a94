set_option maxHeartbeats 4000000 in
set_option maxRecDepth 20000 in
theorem c_X8_asAtFirst2 (l : Launch) (G : GG) (o : Nat) (ad : Nat → Nat) (sc : Int32 × Int32 × Int32) (I : Nat → Nat → Int32) (J : Nat → Nat → Int64) : Ct l G yX8_asAtFirst cX8_asAtFirst 1 none rm_X8_asAtFirst [.ref (ad 2)] (mw G o ad sc I J) (fun u : Nat → Nat → Int32 => mw G o ad sc u J) (fun u : Nat → Nat → Int32 => none) (fun u : Nat → Nat → Int32 => (∀ j, j < 8 → u 2 j = nI (fst8 j)) ∧ fr (fun k j => k = 2) I u) := by
  refine Ct.of (by decide) (Nat.le_of_ble_eq_true rfl) (fun X A hX => ?_)
  subst hX
  refine V.to (lv' := [(0, .ref (ad 2))]) (st := []) (pc' := 0) rfl rfl rfl ?_
  refine V.aload_n dX8_asAtFirst_0 rfl rfl ?_
  refine V.iconst (v := nI (0)) dX8_asAtFirst_1 rfl ?_
  refine V.bipush (v := nI (100)) dX8_asAtFirst_2 rfl ?_
  refine Ms2 (0) rfl (by omega) dX8_asAtFirst_4 ?_
  refine V.aload_n dX8_asAtFirst_5 rfl rfl ?_
  refine V.iconst (v := nI (1)) dX8_asAtFirst_6 rfl ?_
  refine V.bipush (v := nI (100)) dX8_asAtFirst_7 rfl ?_
  refine Ms2 (1) rfl (by omega) dX8_asAtFirst_9 ?_
  refine V.aload_n dX8_asAtFirst_10 rfl rfl ?_
  refine V.iconst (v := nI (2)) dX8_asAtFirst_11 rfl ?_
  refine V.sipush (v := nI (400)) dX8_asAtFirst_12 rfl ?_
  refine Ms2 (2) rfl (by omega) dX8_asAtFirst_15 ?_
  refine V.aload_n dX8_asAtFirst_16 rfl rfl ?_
  refine V.iconst (v := nI (3)) dX8_asAtFirst_17 rfl ?_
  refine V.sipush (v := nI (200)) dX8_asAtFirst_18 rfl ?_
  refine Ms2 (3) rfl (by omega) dX8_asAtFirst_21 ?_
  refine V.aload_n dX8_asAtFirst_22 rfl rfl ?_
  refine V.iconst (v := nI (4)) dX8_asAtFirst_23 rfl ?_
  refine V.bipush (v := nI (110)) dX8_asAtFirst_24 rfl ?_
  refine Ms2 (4) rfl (by omega) dX8_asAtFirst_26 ?_
  refine V.aload_n dX8_asAtFirst_27 rfl rfl ?_
  refine V.iconst (v := nI (5)) dX8_asAtFirst_28 rfl ?_
  refine V.bipush (v := nI (24)) dX8_asAtFirst_29 rfl ?_
  refine Ms2 (5) rfl (by omega) dX8_asAtFirst_31 ?_
  refine V.aload_n dX8_asAtFirst_32 rfl rfl ?_
  refine V.bipush (v := nI (6)) dX8_asAtFirst_33 rfl ?_
  refine V.iconst (v := nI (5)) dX8_asAtFirst_35 rfl ?_
  refine Ms2 (6) rfl (by omega) dX8_asAtFirst_36 ?_
  refine V.aload_n dX8_asAtFirst_37 rfl rfl ?_
  refine V.bipush (v := nI (7)) dX8_asAtFirst_38 rfl ?_
  refine V.iconst (v := nI (3)) dX8_asAtFirst_40 rfl ?_
  refine Ms2 (7) rfl (by omega) dX8_asAtFirst_41 ?_
  exact V.vret (up2 (up2 (up2 (up2 (up2 (up2 (up2 (up2 I 2 (0) (nI (100))) 2 (1) (nI (100))) 2 (2) (nI (400))) 2 (3) (nI (200))) 2 (4) (nI (110))) 2 (5) (nI (24))) 2 (6) (nI (5))) 2 (7) (nI (3))) rfl rfl ⟨fun j hj => by rcases j with _ | _ | _ | _ | _ | _ | _ | _ | j <;> first | omega | rfl, ((((((((fr.up (P := fun k j => k = 2) rfl).tr (fr.up rfl)).tr (fr.up rfl)).tr (fr.up rfl)).tr (fr.up rfl)).tr (fr.up rfl)).tr (fr.up rfl)).tr (fr.up rfl))⟩ rfl (by decide) (by decide) dX8_asAtFirst_42
set_option maxHeartbeats 4000000 in
set_option maxRecDepth 20000 in
theorem c_X8_asAtFirst3 (l : Launch) (G : GG) (o : Nat) (ad : Nat → Nat) (sc : Int32 × Int32 × Int32) (I : Nat → Nat → Int32) (J : Nat → Nat → Int64) : Ct l G yX8_asAtFirst cX8_asAtFirst 1 none rm_X8_asAtFirst [.ref (ad 3)] (mw G o ad sc I J) (fun u : Nat → Nat → Int32 => mw G o ad sc u J) (fun u : Nat → Nat → Int32 => none) (fun u : Nat → Nat → Int32 => (∀ j, j < 8 → u 3 j = nI (fst8 j)) ∧ fr (fun k j => k = 3) I u) := by
  refine Ct.of (by decide) (Nat.le_of_ble_eq_true rfl) (fun X A hX => ?_)
  subst hX
  refine V.to (lv' := [(0, .ref (ad 3))]) (st := []) (pc' := 0) rfl rfl rfl ?_
  refine V.aload_n dX8_asAtFirst_0 rfl rfl ?_
  refine V.iconst (v := nI (0)) dX8_asAtFirst_1 rfl ?_
  refine V.bipush (v := nI (100)) dX8_asAtFirst_2 rfl ?_
  refine Ms3 (0) rfl (by omega) dX8_asAtFirst_4 ?_
  refine V.aload_n dX8_asAtFirst_5 rfl rfl ?_
  refine V.iconst (v := nI (1)) dX8_asAtFirst_6 rfl ?_
  refine V.bipush (v := nI (100)) dX8_asAtFirst_7 rfl ?_
  refine Ms3 (1) rfl (by omega) dX8_asAtFirst_9 ?_
  refine V.aload_n dX8_asAtFirst_10 rfl rfl ?_
  refine V.iconst (v := nI (2)) dX8_asAtFirst_11 rfl ?_
  refine V.sipush (v := nI (400)) dX8_asAtFirst_12 rfl ?_
  refine Ms3 (2) rfl (by omega) dX8_asAtFirst_15 ?_
  refine V.aload_n dX8_asAtFirst_16 rfl rfl ?_
  refine V.iconst (v := nI (3)) dX8_asAtFirst_17 rfl ?_
  refine V.sipush (v := nI (200)) dX8_asAtFirst_18 rfl ?_
  refine Ms3 (3) rfl (by omega) dX8_asAtFirst_21 ?_
  refine V.aload_n dX8_asAtFirst_22 rfl rfl ?_
  refine V.iconst (v := nI (4)) dX8_asAtFirst_23 rfl ?_
  refine V.bipush (v := nI (110)) dX8_asAtFirst_24 rfl ?_
  refine Ms3 (4) rfl (by omega) dX8_asAtFirst_26 ?_
  refine V.aload_n dX8_asAtFirst_27 rfl rfl ?_
  refine V.iconst (v := nI (5)) dX8_asAtFirst_28 rfl ?_
  refine V.bipush (v := nI (24)) dX8_asAtFirst_29 rfl ?_
  refine Ms3 (5) rfl (by omega) dX8_asAtFirst_31 ?_
  refine V.aload_n dX8_asAtFirst_32 rfl rfl ?_
  refine V.bipush (v := nI (6)) dX8_asAtFirst_33 rfl ?_
  refine V.iconst (v := nI (5)) dX8_asAtFirst_35 rfl ?_
  refine Ms3 (6) rfl (by omega) dX8_asAtFirst_36 ?_
  refine V.aload_n dX8_asAtFirst_37 rfl rfl ?_
  refine V.bipush (v := nI (7)) dX8_asAtFirst_38 rfl ?_
  refine V.iconst (v := nI (3)) dX8_asAtFirst_40 rfl ?_
  refine Ms3 (7) rfl (by omega) dX8_asAtFirst_41 ?_
  exact V.vret (up2 (up2 (up2 (up2 (up2 (up2 (up2 (up2 I 3 (0) (nI (100))) 3 (1) (nI (100))) 3 (2) (nI (400))) 3 (3) (nI (200))) 3 (4) (nI (110))) 3 (5) (nI (24))) 3 (6) (nI (5))) 3 (7) (nI (3))) rfl rfl ⟨fun j hj => by rcases j with _ | _ | _ | _ | _ | _ | _ | _ | j <;> first | omega | rfl, ((((((((fr.up (P := fun k j => k = 3) rfl).tr (fr.up rfl)).tr (fr.up rfl)).tr (fr.up rfl)).tr (fr.up rfl)).tr (fr.up rfl)).tr (fr.up rfl)).tr (fr.up rfl))⟩ rfl (by decide) (by decide) dX8_asAtFirst_42
set_option maxHeartbeats 4000000 in
set_option maxRecDepth 20000 in
theorem c_X8_asAtFirst4 (l : Launch) (G : GG) (o : Nat) (ad : Nat → Nat) (sc : Int32 × Int32 × Int32) (I : Nat → Nat → Int32) (J : Nat → Nat → Int64) : Ct l G yX8_asAtFirst cX8_asAtFirst 1 none rm_X8_asAtFirst [.ref (ad 4)] (mw G o ad sc I J) (fun u : Nat → Nat → Int32 => mw G o ad sc u J) (fun u : Nat → Nat → Int32 => none) (fun u : Nat → Nat → Int32 => (∀ j, j < 8 → u 4 j = nI (fst8 j)) ∧ fr (fun k j => k = 4) I u) := by
  refine Ct.of (by decide) (Nat.le_of_ble_eq_true rfl) (fun X A hX => ?_)
  subst hX
  refine V.to (lv' := [(0, .ref (ad 4))]) (st := []) (pc' := 0) rfl rfl rfl ?_
  refine V.aload_n dX8_asAtFirst_0 rfl rfl ?_
  refine V.iconst (v := nI (0)) dX8_asAtFirst_1 rfl ?_
  refine V.bipush (v := nI (100)) dX8_asAtFirst_2 rfl ?_
  refine Ms4 (0) rfl (by omega) dX8_asAtFirst_4 ?_
  refine V.aload_n dX8_asAtFirst_5 rfl rfl ?_
  refine V.iconst (v := nI (1)) dX8_asAtFirst_6 rfl ?_
  refine V.bipush (v := nI (100)) dX8_asAtFirst_7 rfl ?_
  refine Ms4 (1) rfl (by omega) dX8_asAtFirst_9 ?_
  refine V.aload_n dX8_asAtFirst_10 rfl rfl ?_
  refine V.iconst (v := nI (2)) dX8_asAtFirst_11 rfl ?_
  refine V.sipush (v := nI (400)) dX8_asAtFirst_12 rfl ?_
  refine Ms4 (2) rfl (by omega) dX8_asAtFirst_15 ?_
  refine V.aload_n dX8_asAtFirst_16 rfl rfl ?_
  refine V.iconst (v := nI (3)) dX8_asAtFirst_17 rfl ?_
  refine V.sipush (v := nI (200)) dX8_asAtFirst_18 rfl ?_
  refine Ms4 (3) rfl (by omega) dX8_asAtFirst_21 ?_
  refine V.aload_n dX8_asAtFirst_22 rfl rfl ?_
  refine V.iconst (v := nI (4)) dX8_asAtFirst_23 rfl ?_
  refine V.bipush (v := nI (110)) dX8_asAtFirst_24 rfl ?_
  refine Ms4 (4) rfl (by omega) dX8_asAtFirst_26 ?_
  refine V.aload_n dX8_asAtFirst_27 rfl rfl ?_
  refine V.iconst (v := nI (5)) dX8_asAtFirst_28 rfl ?_
  refine V.bipush (v := nI (24)) dX8_asAtFirst_29 rfl ?_
  refine Ms4 (5) rfl (by omega) dX8_asAtFirst_31 ?_
  refine V.aload_n dX8_asAtFirst_32 rfl rfl ?_
  refine V.bipush (v := nI (6)) dX8_asAtFirst_33 rfl ?_
  refine V.iconst (v := nI (5)) dX8_asAtFirst_35 rfl ?_
  refine Ms4 (6) rfl (by omega) dX8_asAtFirst_36 ?_
  refine V.aload_n dX8_asAtFirst_37 rfl rfl ?_
  refine V.bipush (v := nI (7)) dX8_asAtFirst_38 rfl ?_
  refine V.iconst (v := nI (3)) dX8_asAtFirst_40 rfl ?_
  refine Ms4 (7) rfl (by omega) dX8_asAtFirst_41 ?_
  exact V.vret (up2 (up2 (up2 (up2 (up2 (up2 (up2 (up2 I 4 (0) (nI (100))) 4 (1) (nI (100))) 4 (2) (nI (400))) 4 (3) (nI (200))) 4 (4) (nI (110))) 4 (5) (nI (24))) 4 (6) (nI (5))) 4 (7) (nI (3))) rfl rfl ⟨fun j hj => by rcases j with _ | _ | _ | _ | _ | _ | _ | _ | j <;> first | omega | rfl, ((((((((fr.up (P := fun k j => k = 4) rfl).tr (fr.up rfl)).tr (fr.up rfl)).tr (fr.up rfl)).tr (fr.up rfl)).tr (fr.up rfl)).tr (fr.up rfl)).tr (fr.up rfl))⟩ rfl (by decide) (by decide) dX8_asAtFirst_42
set_option maxHeartbeats 4000000 in
set_option maxRecDepth 20000 in
theorem c_X8_reads (l : Launch) (G : GG) (o : Nat) (ad : Nat → Nat) (sc : Int32 × Int32 × Int32) (I : Nat → Nat → Int32) (J : Nat → Nat → Int64) (n : Nat) (tp : List Nat) (ht : tpR I tp) (hl : tp.length ≤ 60) (hb : ∀ b ∈ tp, b < 256) (hn : n ≤ tp.length) : Ct l G yX8_reads cX8_reads 7 (some .int) rm_X8_reads [.ref (o), .int (nI (n))] (mw G o ad sc I J) (fun u : Nat → Nat → Int32 => mw G o ad sc u J) (fun u : Nat → Nat → Int32 => some (.int (nI (edA tp n).1))) (fun u : Nat → Nat → Int32 => (edA tp n).1 ≤ 1000 ∧ ((edA tp n).1 = 0 → ∀ j, j < 8 → u 4 j = nI ((edA tp n).2 j)) ∧ fr (fun k j => k = 4) I u) := by
  refine Ct.of (by decide) (Nat.le_of_ble_eq_true rfl) (fun X A hX => ?_)
  subst hX
  refine V.to (lv' := [(0, .ref (o)), (1, .int (nI (n)))]) (st := []) (pc' := 0) rfl rfl rfl ?_
  have hbl := byt_lt hb n
  have tpf : ∀ {I1 : Nat → Nat → Int32}, fr (fun k j => k = 4) I I1 → tpR I1 tp := fun f i b h => (f 0 i (by omega)).trans (ht i b h)
  have loopI : ∀ (d : Nat) (I1 : Nat → Nat → Int32) (q w i j : Nat), 5 - j < d → fr (fun k j => k = 4) I I1 → q ≤ n → j ≤ 4 → (∀ a, a < j → dig (byt tp n (q + a))) → (4 < dl (byt tp n) 61 q → (edA tp n).1 = 300 + (q + 4)) → (∀ m, dl (byt tp n) 61 q = m → m ≤ 4 → V G X yX8_reads cX8_reads 7 (some .int) rm_X8_reads A (MZ G X rm_X8_reads A (fun u : Nat → Nat → Int32 => mw G o ad sc u J) (fun u : Nat → Nat → Int32 => some (.int (nI (edA tp n).1))) (fun u : Nat → Nat → Int32 => (edA tp n).1 ≤ 1000 ∧ ((edA tp n).1 = 0 → ∀ j, j < 8 → u 4 j = nI ((edA tp n).2 j)) ∧ fr (fun k j => k = 4) I u)) 0 0 (mw G o ad sc I1 J) [(2, .int (nI (q + m))), (6, .int (nI (numV (byt tp n) q m))), (5, .int (nI (q))), (4, .int (nI (w))), (3, .int (nI (i))), (0, .ref (o)), (1, .int (nI (n)))] 128 []) → V G X yX8_reads cX8_reads 7 (some .int) rm_X8_reads A (MZ G X rm_X8_reads A (fun u : Nat → Nat → Int32 => mw G o ad sc u J) (fun u : Nat → Nat → Int32 => some (.int (nI (edA tp n).1))) (fun u : Nat → Nat → Int32 => (edA tp n).1 ≤ 1000 ∧ ((edA tp n).1 = 0 → ∀ j, j < 8 → u 4 j = nI ((edA tp n).2 j)) ∧ fr (fun k j => k = 4) I u)) 0 0 (mw G o ad sc I1 J) [(2, .int (nI (q + j))), (6, .int (nI (numV (byt tp n) q j))), (5, .int (nI (q))), (4, .int (nI (w))), (3, .int (nI (i))), (0, .ref (o)), (1, .int (nI (n)))] 72 [] := by
    intro d
    induction d with
    | zero => intro I1 q w i j hd; exact absurd hd (Nat.not_lt_zero _)
    | succ d ih =>
      intro I1 q w i j hd hf hq hj hd4 hR K
      refine V.aload_n dX8_reads_72 rfl rfl ?_
      refine V.iload_n dX8_reads_73 rfl rfl ?_
      refine V.iload_n dX8_reads_74 rfl rfl ?_
      refine V.callV0 (c_X8_at _ G o ad sc I1 J (q + j) n tp (tpf hf) hl hb hn (by omega)) [] 0 9 rfl rfl rfl rfl (goodV kM_X8_124 kI_X8_at kV_X8_at kN_X8 kC_X8_at) ds_X8_at (by decide) (Nat.le_of_ble_eq_true rfl) dX8_reads_75 (by decide) (fun u hu => ?_)
      have hbk := hbl (q + j)
      refine V.to (lv' := [(2, .int (nI (q + j))), (6, .int (nI (numV (byt tp n) q j))), (5, .int (nI (q))), (4, .int (nI (w))), (3, .int (nI (i))), (0, .ref (o)), (1, .int (nI (n)))]) (st := [.int (nI (byt tp n (q + j)))]) (pc' := 78) rfl rfl rfl ?_
      refine V.i2l (v := lN (byt tp n (q + j))) dX8_reads_78 (nI_l (by omega)) ?_
      refine V.ldc2 (v := 48) kK_X8_132 dX8_reads_79 ?_
      refine V.el (y := lN 48) rfl ?_
      refine V.ldc2 (v := 57) kK_X8_134 dX8_reads_82 ?_
      refine V.el (y := lN 57) rfl ?_
      refine V.callSE (c_X8_lies _ G (lN (byt tp n (q + j))) (lN (48)) (lN (57))) [] rfl (goodS kM_X8_120 kS_X8_lies kN_X8 kC_X8_lies) ds_X8_lies (by decide) (Nat.le_of_ble_eq_true rfl) dX8_reads_85 (by decide) (fun u hu => ?_)
      refine V.to (lv' := [(2, .int (nI (q + j))), (6, .int (nI (numV (byt tp n) q j))), (5, .int (nI (q))), (4, .int (nI (w))), (3, .int (nI (i))), (0, .ref (o)), (1, .int (nI (n)))]) (st := [.int (if lN (48) ≤ lN (byt tp n (q + j)) ∧ lN (byt tp n (q + j)) ≤ lN (57) then 1 else 0)]) (pc' := 88) rfl rfl rfl ?_
      refine V.ei (y := if dig (byt tp n (q + j)) then 1 else 0) (digL (hbl _)) ?_
      refine V.if_eq (tgt := 128) dX8_reads_88 (by decide) (fun c_1 => ?_) (fun c_1 => ?_)
      · have e := ite0.mp c_1
        have hdl := dl_is 61 q j (by omega) hd4 e
        refine V.pick [0, 1, 2, 3, 4, 5, 6] (lv' := [(2, .int (nI (q + j))), (6, .int (nI (numV (byt tp n) q j))), (5, .int (nI (q))), (4, .int (nI (w))), (3, .int (nI (i))), (0, .ref (o)), (1, .int (nI (n)))]) rfl ?_; exact K j hdl hj
      · have e := ite1.mp c_1
        have hlt := byt_n (hk := e)
        refine V.iload_n dX8_reads_91 rfl rfl ?_
        refine V.iload dX8_reads_92 rfl ?_
        refine V.iconst (v := nI (4)) dX8_reads_94 rfl ?_
        refine V.iadd dX8_reads_95 ?_
        refine V.ei (nI_add _ _) ?_
        refine V.icmp_ne (tgt := 105) dX8_reads_96 (by decide) (fun c_2 => ?_) (fun c_2 => ?_)
        · have h4 : j < 4 := by
            rcases Nat.lt_or_ge j 4 with z | z
            · exact z
            · exact absurd (by rw [show j = 4 by omega]) c_2
          refine V.bipush (v := nI (10)) dX8_reads_105 rfl ?_
          refine V.iload dX8_reads_107 rfl ?_
          refine V.imul dX8_reads_109 ?_
          refine V.ei (pk_mul _ _) ?_
          refine V.aload_n dX8_reads_110 rfl rfl ?_
          refine V.iload_n dX8_reads_111 rfl rfl ?_
          refine V.iload_n dX8_reads_112 rfl rfl ?_
          refine V.callV0 (c_X8_at _ G o ad sc I1 J (q + j) n tp (tpf hf) hl hb hn (by omega)) [.int (nI ((10) * (numV (byt tp n) q j)))] 0 9 rfl rfl rfl rfl (goodV kM_X8_124 kI_X8_at kV_X8_at kN_X8 kC_X8_at) ds_X8_at (by decide) (Nat.le_of_ble_eq_true rfl) dX8_reads_113 (by decide) (fun u hu => ?_)
          have hbk := hbl (q + j)
          refine V.to (lv' := [(2, .int (nI (q + j))), (6, .int (nI (numV (byt tp n) q j))), (5, .int (nI (q))), (4, .int (nI (w))), (3, .int (nI (i))), (0, .ref (o)), (1, .int (nI (n)))]) (st := [.int (nI (byt tp n (q + j))), .int (nI ((10) * (numV (byt tp n) q j)))]) (pc' := 116) rfl rfl rfl ?_
          refine V.iadd dX8_reads_116 ?_
          refine V.ei (nI_add _ _) ?_
          refine V.bipush (v := nI (48)) dX8_reads_117 rfl ?_
          refine V.isub dX8_reads_119 ?_
          refine V.ei (y := nI (numV (byt tp n) q (j + 1))) (pk_sub (by have := e.1; omega)) ?_
          refine V.istore (lv' := [(6, .int (nI (numV (byt tp n) q (j + 1)))), (2, .int (nI (q + j))), (5, .int (nI (q))), (4, .int (nI (w))), (3, .int (nI (i))), (0, .ref (o)), (1, .int (nI (n)))]) dX8_reads_120 (by decide) rfl ?_
          refine V.iinc (k := 1) (v := nI (q + j + 1)) (lv' := [(2, .int (nI (q + j + 1))), (6, .int (nI (numV (byt tp n) q (j + 1)))), (5, .int (nI (q))), (4, .int (nI (w))), (3, .int (nI (i))), (0, .ref (o)), (1, .int (nI (n)))]) dX8_reads_122 rfl (iinc1 _) (by decide) rfl ?_
          refine V.goto (tgt := 72) dX8_reads_125 (by decide) ?_
          refine V.pick [0, 1, 2, 3, 4, 5, 6] (lv' := [(2, .int (nI (q + j + 1))), (6, .int (nI (numV (byt tp n) q (j + 1)))), (5, .int (nI (q))), (4, .int (nI (w))), (3, .int (nI (i))), (0, .ref (o)), (1, .int (nI (n)))]) rfl ?_; exact ih I1 q w i (j + 1) (by omega) hf hq (by omega) (fun a ha => by
            by_cases z : a = j
            · rw [z]; exact e
            · exact hd4 a (by omega)) hR K
        · have h4 : q + j = q + 4 := (nI_eq (by omega) (by omega)).mp c_2
          have h5 : 4 < dl (byt tp n) 61 q := dl_ge 61 q 5 (by omega) (fun a ha => by
            rcases Nat.lt_or_ge a j with z | z
            · exact hd4 a z
            · rw [show a = j by omega]; exact e)
          refine V.sipush (v := nI (300)) dX8_reads_99 rfl ?_
          refine V.iload_n dX8_reads_102 rfl rfl ?_
          refine V.iadd dX8_reads_103 ?_
          refine V.ei (nI_add _ _) ?_
          have hr : (edA tp n).1 = 300 + (q + 4) := by rw [hR h5]
          exact V.iret I1 rfl (by rw [hR h5, show q + 4 = q + j by omega]) ⟨by rw [hr]; omega, fun z => by rw [hr] at z; omega, hf⟩ rfl (by decide) (by decide) dX8_reads_104
  have loop : ∀ (d : Nat) (f k i : Nat) (dd : Nat → Nat) (I1 : Nat → Nat → Int32), n - k < d → fr (fun k j => k = 4) I I1 → k ≤ n → i ≤ k → n < k + f → (edA tp n) = rds (byt tp n) n f k dd → (∀ j, j < 8 → I1 4 j = nI (dd j)) → V G X yX8_reads cX8_reads 7 (some .int) rm_X8_reads A (MZ G X rm_X8_reads A (fun u : Nat → Nat → Int32 => mw G o ad sc u J) (fun u : Nat → Nat → Int32 => some (.int (nI (edA tp n).1))) (fun u : Nat → Nat → Int32 => (edA tp n).1 ≤ 1000 ∧ ((edA tp n).1 = 0 → ∀ j, j < 8 → u 4 j = nI ((edA tp n).2 j)) ∧ fr (fun k j => k = 4) I u)) 0 0 (mw G o ad sc I1 J) [(2, .int (nI (k))), (3, .int (nI (i))), (0, .ref (o)), (1, .int (nI (n)))] 11 [] := by
    intro d
    induction d with
    | zero => intro f k i dd I1 hd; exact absurd hd (Nat.not_lt_zero _)
    | succ d ih =>
      intro f k i dd I1 hd hf hk hi hfu hres hI4
      obtain ⟨f, rfl⟩ : ∃ f2, f = f2 + 1 := ⟨f - 1, by omega⟩
      refine V.iload_n dX8_reads_11 rfl rfl ?_
      refine V.iload_n dX8_reads_12 rfl rfl ?_
      refine V.icmp_gt (tgt := 187) dX8_reads_13 (by decide) (fun c_1 => ?_) (fun c_1 => ?_)
      · exact absurd c_1 (nI_nlt (by omega) (by omega))
      · refine V.aload_n dX8_reads_16 rfl rfl ?_
        refine V.iload_n dX8_reads_17 rfl rfl ?_
        refine V.iload_n dX8_reads_18 rfl rfl ?_
        refine V.callV0 (c_X8_at _ G o ad sc I1 J (k) n tp (tpf hf) hl hb hn (by omega)) [] 0 9 rfl rfl rfl rfl (goodV kM_X8_124 kI_X8_at kV_X8_at kN_X8 kC_X8_at) ds_X8_at (by decide) (Nat.le_of_ble_eq_true rfl) dX8_reads_19 (by decide) (fun u hu => ?_)
        have hbk := hbl (k)
        refine V.to (lv' := [(2, .int (nI (k))), (3, .int (nI (i))), (0, .ref (o)), (1, .int (nI (n)))]) (st := [.int (nI (byt tp n (k)))]) (pc' := 22) rfl rfl rfl ?_
        refine V.callSE (c_X8_letter _ G (nI (byt tp n (k)))) [] rfl (goodS kM_X8_128 kS_X8_letter kN_X8 kC_X8_letter) ds_X8_letter (by decide) (Nat.le_of_ble_eq_true rfl) dX8_reads_22 (by decide) (fun u hu => ?_)
        refine V.to (lv' := [(2, .int (nI (k))), (3, .int (nI (i))), (0, .ref (o)), (1, .int (nI (n)))]) (st := [.int (letA (nI (byt tp n (k))))]) (pc' := 25) rfl rfl rfl ?_
        refine V.istore (lv' := [(4, .int (letA (nI (byt tp n (k))))), (2, .int (nI (k))), (3, .int (nI (i))), (0, .ref (o)), (1, .int (nI (n)))]) dX8_reads_25 (by decide) rfl ?_
        refine V.iload dX8_reads_27 rfl ?_
        refine V.iconst (v := -1) dX8_reads_29 (by decide) ?_
        refine V.icmp_ne (tgt := 38) dX8_reads_30 (by decide) (fun c_2 => ?_) (fun c_2 => ?_)
        · have h8 : ¬ letK (nI (byt tp n k)) = 8 := fun z => c_2 ((letA_no _).mpr z)
          have h8l := (letA_yes h8).2
          have hkn := letK_n h8
          refine V.to (lv' := [(4, .int (nI ((letK (nI (byt tp n k)))))), (2, .int (nI (k))), (3, .int (nI (i))), (0, .ref (o)), (1, .int (nI (n)))]) (st := []) (by rw [← (letA_yes h8).1]) rfl rfl ?_
          refine V.iinc (k := 1) (v := nI (k + 1)) (lv' := [(2, .int (nI (k + 1))), (4, .int (nI ((letK (nI (byt tp n k)))))), (3, .int (nI (i))), (0, .ref (o)), (1, .int (nI (n)))]) dX8_reads_38 rfl (iinc1 _) (by decide) rfl ?_
          refine V.aload_n dX8_reads_41 rfl rfl ?_
          refine V.iload_n dX8_reads_42 rfl rfl ?_
          refine V.iload_n dX8_reads_43 rfl rfl ?_
          refine V.callV0 (c_X8_at _ G o ad sc I1 J (k + 1) n tp (tpf hf) hl hb hn (by omega)) [] 0 9 rfl rfl rfl rfl (goodV kM_X8_124 kI_X8_at kV_X8_at kN_X8 kC_X8_at) ds_X8_at (by decide) (Nat.le_of_ble_eq_true rfl) dX8_reads_44 (by decide) (fun u hu => ?_)
          have hbk := hbl (k + 1)
          refine V.to (lv' := [(2, .int (nI (k + 1))), (4, .int (nI ((letK (nI (byt tp n k)))))), (3, .int (nI (i))), (0, .ref (o)), (1, .int (nI (n)))]) (st := [.int (nI (byt tp n (k + 1)))]) (pc' := 47) rfl rfl rfl ?_
          refine V.i2l (v := lN (byt tp n (k + 1))) dX8_reads_47 (nI_l (by omega)) ?_
          refine V.ldc2 (v := 48) kK_X8_132 dX8_reads_48 ?_
          refine V.el (y := lN 48) rfl ?_
          refine V.ldc2 (v := 57) kK_X8_134 dX8_reads_51 ?_
          refine V.el (y := lN 57) rfl ?_
          refine V.callSE (c_X8_lies _ G (lN (byt tp n (k + 1))) (lN (48)) (lN (57))) [] rfl (goodS kM_X8_120 kS_X8_lies kN_X8 kC_X8_lies) ds_X8_lies (by decide) (Nat.le_of_ble_eq_true rfl) dX8_reads_54 (by decide) (fun u hu => ?_)
          refine V.to (lv' := [(2, .int (nI (k + 1))), (4, .int (nI ((letK (nI (byt tp n k)))))), (3, .int (nI (i))), (0, .ref (o)), (1, .int (nI (n)))]) (st := [.int (if lN (48) ≤ lN (byt tp n (k + 1)) ∧ lN (byt tp n (k + 1)) ≤ lN (57) then 1 else 0)]) (pc' := 57) rfl rfl rfl ?_
          refine V.ei (y := if dig (byt tp n (k + 1)) then 1 else 0) (digL (hbl _)) ?_
          refine V.if_ne (tgt := 66) dX8_reads_57 (by decide) (fun c_3 => ?_) (fun c_3 => ?_)
          · have e0 := ite1.mp c_3
            have hz : ¬ dl (byt tp n) 61 (k + 1) = 0 := fun z => by have := dl_ge 61 (k + 1) 1 (by omega) (fun j hj => by rw [show j = 0 by omega]; exact e0); omega
            refine V.iload_n dX8_reads_66 rfl rfl ?_
            refine V.istore (lv' := [(5, .int (nI (k + 1))), (2, .int (nI (k + 1))), (4, .int (nI ((letK (nI (byt tp n k)))))), (3, .int (nI (i))), (0, .ref (o)), (1, .int (nI (n)))]) dX8_reads_67 (by decide) rfl ?_
            refine V.iconst (v := nI (0)) dX8_reads_69 rfl ?_
            refine V.istore (lv' := [(6, .int (nI (0))), (5, .int (nI (k + 1))), (2, .int (nI (k + 1))), (4, .int (nI ((letK (nI (byt tp n k)))))), (3, .int (nI (i))), (0, .ref (o)), (1, .int (nI (n)))]) dX8_reads_70 (by decide) rfl ?_
            refine V.pick [2, 0, 1, 3, 4, 5, 6] (lv' := [(2, .int (nI (k + 1))), (6, .int (nI (0))), (5, .int (nI (k + 1))), (4, .int (nI ((letK (nI (byt tp n k)))))), (3, .int (nI (i))), (0, .ref (o)), (1, .int (nI (n)))]) rfl ?_; refine loopI 6 I1 (k + 1) (letK (nI (byt tp n k))) i 0 (by omega) hf (by omega) (by omega) (fun a ha => by omega) (fun h5 => by rw [hres, rds, if_neg h8, if_neg hz, if_pos h5]) (fun m hm hm4 => ?_)
            have hv9 : (numV (byt tp n) (k + 1) m) ≤ 9999 := numV_4 hm4 (dl_at 61 (k + 1) m hm)
            have hdn := dl_n (tp := tp) (n := n) (f := 61) (k := k + 1) (by omega)
            refine V.iload dX8_reads_128 rfl ?_
            refine V.iload dX8_reads_130 rfl ?_
            refine V.callSE (c_X8_canBe _ G (letK (nI (byt tp n k))) (numV (byt tp n) (k + 1) m) h8l hv9) [] rfl (goodS kM_X8_136 kS_X8_canBe kN_X8 kC_X8_canBe) ds_X8_canBe (by decide) (Nat.le_of_ble_eq_true rfl) dX8_reads_132 (by decide) (fun u hu => ?_)
            refine V.to (lv' := [(2, .int (nI (k + 1 + m))), (6, .int (nI ((numV (byt tp n) (k + 1) m)))), (5, .int (nI (k + 1))), (4, .int (nI ((letK (nI (byt tp n k)))))), (3, .int (nI (i))), (0, .ref (o)), (1, .int (nI (n)))]) (st := [.int (if can (letK (nI (byt tp n k))) (numV (byt tp n) (k + 1) m) then 1 else 0)]) (pc' := 135) rfl rfl rfl ?_
            refine V.if_ne (tgt := 145) dX8_reads_135 (by decide) (fun c_4 => ?_) (fun c_4 => ?_)
            · have hcan := ite1.mp c_4
              refine V.aload_n dX8_reads_145 rfl rfl ?_
              refine Mg4 rfl dX8_reads_146 ?_
              refine V.iload dX8_reads_149 rfl ?_
              refine V.iload dX8_reads_151 rfl ?_
              refine Ms4 ((letK (nI (byt tp n k)))) rfl (by omega) dX8_reads_153 ?_
              have hI4b := rd_up (w := (letK (nI (byt tp n k)))) (v := (numV (byt tp n) (k + 1) m)) hI4
              have hf := hf.tr (fr.up (P := fun k j => k = 4) rfl : fr (fun k j => k = 4) I1 (up2 I1 4 (letK (nI (byt tp n k))) (nI (numV (byt tp n) (k + 1) m))))
              refine V.iload_n dX8_reads_154 rfl rfl ?_
              refine V.iload_n dX8_reads_155 rfl rfl ?_
              refine V.icmp_ne (tgt := 161) dX8_reads_156 (by decide) (fun c_5 => ?_) (fun c_5 => ?_)
              · have hkm : ¬ k + 1 + m = n := fun z => c_5 (by rw [z])
                refine V.aload_n dX8_reads_161 rfl rfl ?_
                refine V.iload_n dX8_reads_162 rfl rfl ?_
                refine V.iload_n dX8_reads_163 rfl rfl ?_
                refine V.callV0 (c_X8_at _ G o ad sc (up2 I1 4 (letK (nI (byt tp n k))) (nI (numV (byt tp n) (k + 1) m))) J (k + 1 + m) n tp (tpf hf) hl hb hn (by omega)) [] 0 9 rfl rfl rfl rfl (goodV kM_X8_124 kI_X8_at kV_X8_at kN_X8 kC_X8_at) ds_X8_at (by decide) (Nat.le_of_ble_eq_true rfl) dX8_reads_164 (by decide) (fun u hu => ?_)
                have hbk := hbl (k + 1 + m)
                refine V.to (lv' := [(2, .int (nI (k + 1 + m))), (6, .int (nI ((numV (byt tp n) (k + 1) m)))), (5, .int (nI (k + 1))), (4, .int (nI ((letK (nI (byt tp n k)))))), (3, .int (nI (i))), (0, .ref (o)), (1, .int (nI (n)))]) (st := [.int (nI (byt tp n (k + 1 + m)))]) (pc' := 167) rfl rfl rfl ?_
                refine V.bipush (v := nI (59)) dX8_reads_167 rfl ?_
                refine V.icmp_eq (tgt := 178) dX8_reads_169 (by decide) (fun c_6 => ?_) (fun c_6 => ?_)
                · have h59 : byt tp n (k + 1 + m) = 59 := (nI_eq (by omega) (by omega)).mp c_6
                  refine V.iinc (k := 0) (v := nI (k + 1 + m + 1)) (lv' := [(2, .int (nI (k + 1 + m + 1))), (6, .int (nI ((numV (byt tp n) (k + 1) m)))), (5, .int (nI (k + 1))), (4, .int (nI ((letK (nI (byt tp n k)))))), (3, .int (nI (i))), (0, .ref (o)), (1, .int (nI (n)))]) dX8_reads_178 rfl (iinc1 _) (by decide) rfl ?_
                  refine V.iinc (k := 4) (v := nI (i + 1)) (lv' := [(3, .int (nI (i + 1))), (2, .int (nI (k + 1 + m + 1))), (6, .int (nI ((numV (byt tp n) (k + 1) m)))), (5, .int (nI (k + 1))), (4, .int (nI ((letK (nI (byt tp n k)))))), (0, .ref (o)), (1, .int (nI (n)))]) dX8_reads_181 rfl (iinc1 _) (by decide) rfl ?_
                  refine V.goto (tgt := 11) dX8_reads_184 (by decide) ?_
                  refine V.pick [1, 0, 5, 6] (lv' := [(2, .int (nI (k + 1 + m + 1))), (3, .int (nI (i + 1))), (0, .ref (o)), (1, .int (nI (n)))]) rfl ?_; exact ih f (k + 1 + m + 1) (i + 1) _ _ (by omega) hf (by omega) (by omega) (by omega) (by rw [hres, rds, if_neg h8, if_neg hz, if_neg (by omega), hm, if_neg (fun z => z hcan), if_neg hkm, if_neg (fun z => z h59)]) hI4b
                · have h59 : byt tp n (k + 1 + m) ≠ 59 := fun z => c_6 (by rw [z])
                  refine V.sipush (v := nI (500)) dX8_reads_172 rfl ?_
                  refine V.iload_n dX8_reads_175 rfl rfl ?_
                  refine V.iadd dX8_reads_176 ?_
                  refine V.ei (nI_add _ _) ?_
                  have hr : (edA tp n).1 = 500 + (k + 1 + m) := by rw [hres, rds, if_neg h8, if_neg hz, if_neg (by omega), hm, if_neg (fun z => z hcan), if_neg hkm, if_pos h59]
                  exact V.iret (up2 I1 4 ((letK (nI (byt tp n k)))) (nI ((numV (byt tp n) (k + 1) m)))) rfl (by rw [hr]) ⟨by rw [hr]; omega, fun z => by rw [hr] at z; omega, hf⟩ rfl (by decide) (by decide) dX8_reads_177
              · have hkm : k + 1 + m = n := (nI_eq (by omega) (by omega)).mp c_5
                refine V.iconst (v := nI (0)) dX8_reads_159 rfl ?_
                have hr : (edA tp n) = (0, upf dd (letK (nI (byt tp n k))) (numV (byt tp n) (k + 1) m)) := by rw [hres, rds, if_neg h8, if_neg hz, if_neg (by omega), hm, if_neg (fun z => z hcan), if_pos hkm]
                exact V.iret (up2 I1 4 ((letK (nI (byt tp n k)))) (nI ((numV (byt tp n) (k + 1) m)))) rfl (by rw [hr]) ⟨by rw [hr]; exact Nat.zero_le _, fun _ => by rw [hr]; exact hI4b, hf⟩ rfl (by decide) (by decide) dX8_reads_160
            · have hcan := ite0.mp c_4
              refine V.sipush (v := nI (400)) dX8_reads_138 rfl ?_
              refine V.iload dX8_reads_141 rfl ?_
              refine V.iadd dX8_reads_143 ?_
              refine V.ei (nI_add _ _) ?_
              have hr : (edA tp n).1 = 400 + (k + 1) := by rw [hres, rds, if_neg h8, if_neg hz, if_neg (by omega), hm, if_pos hcan]
              exact V.iret I1 rfl (by rw [hr]) ⟨by rw [hr]; omega, fun z => by rw [hr] at z; omega, hf⟩ rfl (by decide) (by decide) dX8_reads_144
          · have e0 := ite0.mp c_3
            have hz : dl (byt tp n) 61 (k + 1) = 0 := dl_is 61 (k + 1) 0 (by omega) (fun j hj => by omega) e0
            refine V.sipush (v := nI (200)) dX8_reads_60 rfl ?_
            refine V.iload_n dX8_reads_63 rfl rfl ?_
            refine V.iadd dX8_reads_64 ?_
            refine V.ei (nI_add _ _) ?_
            have hr : (edA tp n).1 = 200 + (k + 1) := by rw [hres, rds, if_neg h8, if_pos hz]
            exact V.iret I1 rfl (by rw [hr]) ⟨by rw [hr]; omega, fun z => by rw [hr] at z; omega, hf⟩ rfl (by decide) (by decide) dX8_reads_65
        · have h8 := (letA_no _).mp c_2
          refine V.bipush (v := nI (100)) dX8_reads_33 rfl ?_
          refine V.iload_n dX8_reads_35 rfl rfl ?_
          refine V.iadd dX8_reads_36 ?_
          refine V.ei (nI_add _ _) ?_
          have hr : (edA tp n).1 = 100 + k := by rw [hres, rds, if_pos h8]
          exact V.iret I1 rfl (by rw [hr]) ⟨by rw [hr]; omega, fun z => by rw [hr] at z; omega, hf⟩ rfl (by decide) (by decide) dX8_reads_37
  refine V.aload_n dX8_reads_0 rfl rfl ?_
  refine Mg4 rfl dX8_reads_1 ?_
  refine V.callS0 (c_X8_asAtFirst4 _ G o ad sc I J) [] rfl (goodS kM_X8_106 kS_X8_asAtFirst kN_X8 kC_X8_asAtFirst) ds_X8_asAtFirst (by decide) (Nat.le_of_ble_eq_true rfl) dX8_reads_4 (by decide) (fun u hu => ?_)
  refine V.to (lv' := [(0, .ref (o)), (1, .int (nI (n)))]) (st := []) (pc' := 7) rfl rfl rfl ?_
  refine V.iconst (v := nI (0)) dX8_reads_7 rfl ?_
  refine V.istore_n (lv' := [(2, .int (nI (0))), (0, .ref (o)), (1, .int (nI (n)))]) dX8_reads_8 rfl (by decide) rfl ?_
  refine V.iconst (v := nI (0)) dX8_reads_9 rfl ?_
  refine V.istore_n (lv' := [(3, .int (nI (0))), (2, .int (nI (0))), (0, .ref (o)), (1, .int (nI (n)))]) dX8_reads_10 rfl (by decide) rfl ?_
  refine V.pick [1, 0, 2, 3] (lv' := [(2, .int (nI (0))), (3, .int (nI (0))), (0, .ref (o)), (1, .int (nI (n)))]) rfl ?_; exact loop (n + 1) 61 0 0 fst8 u (by omega) hu.2 (by omega) (by omega) (by omega) rfl hu.1
set_option maxHeartbeats 4000000 in
set_option maxRecDepth 20000 in
theorem c_X8_rule (l : Launch) (G : GG) (o : Nat) (ad : Nat → Nat) (sc : Int32 × Int32 × Int32) (I : Nat → Nat → Int32) (J : Nat → Nat → Int64) (B : Nat) (tp : List Nat) (nx : Nat → Nat) (tn rn : Nat) (E R Hv : Nat → Nat) (mo co : Nat) (C : List Cr) (T : Nat → ST) (rd : Nat → Rd) (hm : mrep sc I J tp nx tn rn E R Hv mo co C T rd) (hv : sinv B tp nx tn rn E R Hv mo co C T rd) (hB : B ≤ 2 ^ 47) (c : Int32) : Ct l G yX8_rule cX8_rule 2 (some .int) rm_X8_rule [.ref (o), .int (c)] (mw G o ad sc I J) (fun u : Unit => (mw G o ad sc I J)) (fun u : Unit => some (.int (if letK c < 8 then nI (nx (letK c)) else -1))) (fun u : Unit => True) := by
  refine Ct.of (by decide) (Nat.le_of_ble_eq_true rfl) (fun X A hX => ?_)
  subst hX
  refine V.to (lv' := [(0, .ref (o)), (1, .int (c))]) (st := []) (pc' := 0) rfl rfl rfl ?_
  obtain ⟨m0, m1, m2, m3, m4, m5, m6, m7, m8, m9, m10, m11, m12, m13⟩ := id hm
  obtain ⟨⟨v0, v1⟩, ⟨v2, v3⟩, ⟨v4, v5⟩, ⟨v6, v7, v8, v9⟩, ⟨v10, v11⟩, ⟨v12, v13⟩, ⟨v14, v15⟩, v16, v17⟩ := id hv
  refine V.iload_n dX8_rule_0 rfl rfl ?_
  refine V.callSE (c_X8_letter _ G (c)) [] rfl (goodS kM_X8_128 kS_X8_letter kN_X8 kC_X8_letter) ds_X8_letter (by decide) (Nat.le_of_ble_eq_true rfl) dX8_rule_1 (by decide) (fun u hu => ?_)
  refine V.to (lv' := [(0, .ref (o)), (1, .int (c))]) (st := [.int (letA (c))]) (pc' := 4) rfl rfl rfl ?_
  refine V.iconst (v := -1) dX8_rule_4 (by decide) ?_
  refine V.icmp_ne (tgt := 12) dX8_rule_5 (by decide) (fun c_1 => ?_) (fun c_1 => ?_)
  · have h8 : ¬ letK c = 8 := fun z => c_1 ((letA_no _).mpr z)
    refine V.aload_n dX8_rule_12 rfl rfl ?_
    refine Mg3 rfl dX8_rule_13 ?_
    refine V.iload_n dX8_rule_16 rfl rfl ?_
    refine V.callSE (c_X8_letter _ G (c)) [.ref (ad 3)] rfl (goodS kM_X8_128 kS_X8_letter kN_X8 kC_X8_letter) ds_X8_letter (by decide) (Nat.le_of_ble_eq_true rfl) dX8_rule_17 (by decide) (fun u hu => ?_)
    refine V.to (lv' := [(0, .ref (o)), (1, .int (c))]) (st := [.int (letA (c)), .ref (ad 3)]) (pc' := 20) rfl rfl rfl ?_
    refine Ml3 (letK c) (letA_yes h8).1 (letA_yes h8).2 dX8_rule_20 ?_
    refine V.ei (y := nI (nx (letK c))) (m2 _ (letA_yes h8).2) ?_
    exact V.iret () rfl (by rw [if_pos (letA_yes h8).2]) trivial rfl (by decide) (by decide) dX8_rule_21
  · have h8 := (letA_no _).mp c_1
    refine V.iconst (v := -1) dX8_rule_8 (by decide) ?_
    refine V.goto (tgt := 21) dX8_rule_9 (by decide) ?_
    exact V.iret () rfl (by rw [if_neg (by omega)]) trivial rfl (by decide) (by decide) dX8_rule_21
set_option maxHeartbeats 4000000 in
set_option maxRecDepth 20000 in
theorem c_X8_edict (l : Launch) (G : GG) (o : Nat) (ad : Nat → Nat) (sc : Int32 × Int32 × Int32) (I : Nat → Nat → Int32) (J : Nat → Nat → Int64) (B : Nat) (tp : List Nat) (nx : Nat → Nat) (tn rn : Nat) (E R Hv : Nat → Nat) (mo co : Nat) (C : List Cr) (T : Nat → ST) (rd : Nat → Rd) (hm : mrep sc I J tp nx tn rn E R Hv mo co C T rd) (hv : sinv B tp nx tn rn E R Hv mo co C T rd) (hB : B ≤ 2 ^ 47) (n : Int32) : Ct l G yX8_edict cX8_edict 4 (some .int) rm_X8_edict [.ref (o), .int (n)] (mw G o ad sc I J) (fun u : (Int32 × Int32 × Int32) × (Nat → Nat → Int32) × (Nat → Nat → Int64) => mw G o ad u.1 u.2.1 u.2.2) (fun u : (Int32 × Int32 × Int32) × (Nat → Nat → Int32) × (Nat → Nat → Int64) => some (.int (if isN 0 tp.length n then nI (edA tp (kN n)).1 else -1))) (fun u : (Int32 × Int32 × Int32) × (Nat → Nat → Int32) × (Nat → Nat → Int64) => mrep u.1 u.2.1 u.2.2 (if isN 0 tp.length n then [] else tp) (if isN 0 tp.length n ∧ (edA tp (kN n)).1 = 0 then (edA tp (kN n)).2 else nx) tn rn E R Hv mo co C T rd) := by
  refine Ct.of (by decide) (Nat.le_of_ble_eq_true rfl) (fun X A hX => ?_)
  subst hX
  refine V.to (lv' := [(0, .ref (o)), (1, .int (n))]) (st := []) (pc' := 0) rfl rfl rfl ?_
  obtain ⟨m0, m1, m2, m3, m4, m5, m6, m7, m8, m9, m10, m11, m12, m13⟩ := id hm
  obtain ⟨⟨v0, v1⟩, ⟨v2, v3⟩, ⟨v4, v5⟩, ⟨v6, v7, v8, v9⟩, ⟨v10, v11⟩, ⟨v12, v13⟩, ⟨v14, v15⟩, v16, v17⟩ := id hv
  have loop : ∀ (d : Nat) (p : isN 0 tp.length n) (k : Nat) (I2 : Nat → Nat → Int32), 8 - k < d → k ≤ 8 → (edA tp (kN n)).1 ≤ 1000 → fr (fun k j => k = 3 ∨ k = 4) I I2 → ((edA tp (kN n)).1 = 0 → ∀ j, j < 8 → I2 4 j = nI ((edA tp (kN n)).2 j)) → ((edA tp (kN n)).1 = 0 → ∀ j, j < k → I2 3 j = nI ((edA tp (kN n)).2 j)) → (¬ (edA tp (kN n)).1 = 0 → ∀ j, j < 8 → I2 3 j = I 3 j) → V G X yX8_edict cX8_edict 4 (some .int) rm_X8_edict A (MZ G X rm_X8_edict A (fun u : (Int32 × Int32 × Int32) × (Nat → Nat → Int32) × (Nat → Nat → Int64) => mw G o ad u.1 u.2.1 u.2.2) (fun u : (Int32 × Int32 × Int32) × (Nat → Nat → Int32) × (Nat → Nat → Int64) => some (.int (if isN 0 tp.length n then nI (edA tp (kN n)).1 else -1))) (fun u : (Int32 × Int32 × Int32) × (Nat → Nat → Int32) × (Nat → Nat → Int64) => mrep u.1 u.2.1 u.2.2 (if isN 0 tp.length n then [] else tp) (if isN 0 tp.length n ∧ (edA tp (kN n)).1 = 0 then (edA tp (kN n)).2 else nx) tn rn E R Hv mo co C T rd)) 0 0 (mw G o ad (nI (0), sc.2.1, sc.2.2) I2 J) [(3, .int (nI (k))), (2, .int (nI ((edA tp (kN n)).1))), (0, .ref (o)), (1, .int (nI (kN n)))] 27 [] := by
    intro d
    induction d with
    | zero => intro p k I2 hd; exact absurd hd (Nat.not_lt_zero _)
    | succ d ih =>
      intro p k I2 hd hk h1k hf h4 h3 h3b
      refine V.iload_n dX8_edict_27 rfl rfl ?_
      refine V.bipush (v := nI (8)) dX8_edict_28 rfl ?_
      refine V.icmp_ge (tgt := 55) dX8_edict_30 (by decide) (fun c_1 => ?_) (fun c_1 => ?_)
      · have hc := (nI_leI (by omega) (by omega)).mp c_1
        have he : k = 8 := by omega
        refine V.iload_n dX8_edict_55 rfl rfl ?_
        have hacc : isN 0 tp.length n := p
        exact V.iret ((nI (0), sc.2.1, sc.2.2), I2, J) rfl (by simp only [if_pos hacc]) (by simp only [if_pos hacc]; exact mrep_ed hm hf (fun t ht => (v14 t ht).1) v12 (fun j hj => by by_cases y : (edA tp (kN n)).1 = 0; rw [if_pos ⟨p, y⟩]; exact h3 y j (by omega); rw [if_neg (fun z => y z.2)]; exact (h3b y j hj).trans (m2 j hj))) rfl (by decide) (by decide) dX8_edict_56
      · have hc : k < 8 := by
          rcases Nat.lt_or_ge (k) (8) with z | z
          · exact z
          · exact absurd (nI_le z (by omega)) c_1
        refine V.iload_n dX8_edict_33 rfl rfl ?_
        refine V.if_ne (tgt := 55) dX8_edict_34 (by decide) (fun c_2 => ?_) (fun c_2 => ?_)
        · have hz : ¬ (edA tp (kN n)).1 = 0 := fun z => c_2 (by rw [z]; rfl)
          refine V.iload_n dX8_edict_55 rfl rfl ?_
          have hacc : isN 0 tp.length n := p
          exact V.iret ((nI (0), sc.2.1, sc.2.2), I2, J) rfl (by simp only [if_pos hacc]) (by simp only [if_pos hacc]; exact mrep_ed hm hf (fun t ht => (v14 t ht).1) v12 (fun j hj => by rw [if_neg (fun z => hz z.2)]; exact (h3b hz j hj).trans (m2 j hj))) rfl (by decide) (by decide) dX8_edict_56
        · have hz : (edA tp (kN n)).1 = 0 := (nI_eq (b := 0) (by omega) (by omega)).mp c_2
          refine V.aload_n dX8_edict_37 rfl rfl ?_
          refine Mg3 rfl dX8_edict_38 ?_
          refine V.iload_n dX8_edict_41 rfl rfl ?_
          refine V.aload_n dX8_edict_42 rfl rfl ?_
          refine Mg4 rfl dX8_edict_43 ?_
          refine V.iload_n dX8_edict_46 rfl rfl ?_
          refine Ml4 (k) rfl (by omega) dX8_edict_47 ?_
          refine V.ei (y := nI ((edA tp (kN n)).2 k)) (h4 hz k (by omega)) ?_
          refine Ms3 (k) rfl (by omega) dX8_edict_48 ?_
          refine V.iinc (k := 0) (v := nI (k + 1)) (lv' := [(3, .int (nI (k + 1))), (2, .int (nI ((edA tp (kN n)).1))), (0, .ref (o)), (1, .int (nI (kN n)))]) dX8_edict_49 rfl (iinc1 _) (by decide) rfl ?_
          refine V.goto (tgt := 27) dX8_edict_52 (by decide) ?_
          refine V.pick [0, 1, 2, 3] (lv' := [(3, .int (nI (k + 1))), (2, .int (nI ((edA tp (kN n)).1))), (0, .ref (o)), (1, .int (nI (kN n)))]) rfl ?_; exact ih p (k + 1) _ (by omega) (by omega) h1k (hf.tr (fr.up (Or.inl rfl))) (fun z j hj => by rw [up2_k _ _ (by decide)]; exact h4 z j hj) (fun z j hj => by
            by_cases y : j = k
            · rw [y, up2_s]
            · rw [up2_j _ _ y]; exact h3 z j (by omega)) (fun z => absurd hz z)
  refine V.iload_n dX8_edict_0 rfl rfl ?_
  refine V.if_lt (tgt := 12) dX8_edict_1 (by decide) (fun c_1 => ?_) (fun c_1 => ?_)
  · have p : ¬ isN 0 tp.length n := fun z => by have h1 := z.1; have h2 : n.toInt < (0 : Int32).toInt := Int32.lt_iff_toInt_lt.mp c_1; have h3 : (0 : Int32).toInt = 0 := rfl; omega
    refine V.iconst (v := -1) dX8_edict_12 (by decide) ?_
    have hacc : ¬ (isN 0 tp.length n) := p
    exact V.iret (sc, I, J) rfl (by simp only [if_neg hacc]) (by simp only [if_neg hacc, if_neg (fun z : isN 0 tp.length n ∧ (edA tp (kN n)).1 = 0 => hacc z.1)]; exact hm) rfl (by decide) (by decide) dX8_edict_13
  · have h0 : 0 ≤ n.toInt := by have h2 : ¬ n.toInt < (0 : Int32).toInt := fun z => c_1 (Int32.lt_iff_toInt_lt.mpr z); have h3 : (0 : Int32).toInt = 0 := rfl; omega
    refine V.iload_n dX8_edict_4 rfl rfl ?_
    refine V.aload_n dX8_edict_5 rfl rfl ?_
    refine Mg1 rfl dX8_edict_6 ?_
    refine V.ei (y := nI (tp.length)) m0 ?_
    refine V.icmp_le (tgt := 14) dX8_edict_9 (by decide) (fun c_2 => ?_) (fun c_2 => ?_)
    · have p : isN 0 tp.length n := ⟨by omega, (ileI n (by omega)).mp c_2⟩
      have hkn := p.k.2
      refine V.to (lv' := [(0, .ref (o)), (1, .int (nI (kN n)))]) (st := []) (by rw [← p.k.1]) rfl rfl ?_
      refine V.aload_n dX8_edict_14 rfl rfl ?_
      refine V.iconst (v := nI (0)) dX8_edict_15 rfl ?_
      refine Mp1 rfl dX8_edict_16 ?_
      refine V.aload_n dX8_edict_19 rfl rfl ?_
      refine V.iload_n dX8_edict_20 rfl rfl ?_
      refine V.callV0 (c_X8_reads _ G o ad (nI (0), sc.2.1, sc.2.2) I J (kN n) tp m1 v0 v1 hkn.2) [] 0 9 rfl rfl rfl rfl (goodV kM_X8_140 kI_X8_reads kV_X8_reads kN_X8 kC_X8_reads) ds_X8_reads (by decide) (Nat.le_of_ble_eq_true rfl) dX8_edict_21 (by decide) (fun u hu => ?_)
      refine V.to (lv' := [(0, .ref (o)), (1, .int (nI (kN n)))]) (st := [.int (nI ((edA tp (kN n)).1))]) (pc' := 24) rfl rfl rfl ?_
      refine V.istore_n (lv' := [(2, .int (nI ((edA tp (kN n)).1))), (0, .ref (o)), (1, .int (nI (kN n)))]) dX8_edict_24 rfl (by decide) rfl ?_
      refine V.iconst (v := nI (0)) dX8_edict_25 rfl ?_
      refine V.istore_n (lv' := [(3, .int (nI (0))), (2, .int (nI ((edA tp (kN n)).1))), (0, .ref (o)), (1, .int (nI (kN n)))]) dX8_edict_26 rfl (by decide) rfl ?_
      refine V.pick [0, 1, 2, 3] (lv' := [(3, .int (nI (0))), (2, .int (nI ((edA tp (kN n)).1))), (0, .ref (o)), (1, .int (nI (kN n)))]) rfl ?_; exact loop 9 p 0 u (by omega) (by omega) hu.1 (hu.2.2.mono (fun _ _ z => Or.inr z)) hu.2.1 (fun _ j hj => by omega) (fun _ j hj => hu.2.2 3 j (by omega))
    · have p : ¬ isN 0 tp.length n := fun z => c_2 ((ileI n (by omega)).mpr z.2)
      refine V.iconst (v := -1) dX8_edict_12 (by decide) ?_
      have hacc : ¬ (isN 0 tp.length n) := p
      exact V.iret (sc, I, J) rfl (by simp only [if_neg hacc]) (by simp only [if_neg hacc, if_neg (fun z : isN 0 tp.length n ∧ (edA tp (kN n)).1 = 0 => hacc z.1)]; exact hm) rfl (by decide) (by decide) dX8_edict_13
