set_option maxHeartbeats 4000000 in
set_option maxRecDepth 20000 in
theorem c_X8_look (l : Launch) (G : GG) (o : Nat) (ad : Nat → Nat) (sc : Int32 × Int32 × Int32) (I : Nat → Nat → Int32) (J : Nat → Nat → Int64) (B : Nat) (tp : List Nat) (nx : Nat → Nat) (tn rn : Nat) (E R Hv : Nat → Nat) (mo co : Nat) (C : List Cr) (T : Nat → ST) (rd : Nat → Rd) (hm : mrep sc I J tp nx tn rn E R Hv mo co C T rd) (hv : sinv B tp nx tn rn E R Hv mo co C T rd) (hB : B ≤ 2 ^ 47) (t w : Int32) : Ct l G yX8_look cX8_look 3 (some .long) rm_X8_look [.ref (o), .int (t), .int (w)] (mw G o ad sc I J) (fun u : Unit => (mw G o ad sc I J)) (fun u : Unit => some (.long (lookR tn E R T t w))) (fun u : Unit => True) := by
  refine Ct.of (by decide) (Nat.le_of_ble_eq_true rfl) (fun X A hX => ?_)
  subst hX
  refine V.to (lv' := [(0, .ref (o)), (1, .int (t)), (2, .int (w))]) (st := []) (pc' := 0) rfl rfl rfl ?_
  obtain ⟨m0, m1, m2, m3, m4, m5, m6, m7, m8, m9, m10, m11, m12, m13⟩ := id hm
  obtain ⟨⟨v0, v1⟩, ⟨v2, v3⟩, ⟨v4, v5⟩, ⟨v6, v7, v8, v9⟩, ⟨v10, v11⟩, ⟨v12, v13⟩, ⟨v14, v15⟩, v16, v17⟩ := id hv
  refine V.aload_n dX8_look_0 rfl rfl ?_
  refine V.iload_n dX8_look_1 rfl rfl ?_
  refine V.callV0 (c_X8_isTown _ G o ad sc I J tn t m3 v4) [] 0 9 rfl rfl rfl rfl (goodV kM_X8_155 kI_X8_isTown kV_X8_isTown kN_X8 kC_X8_isTown) ds_X8_isTown (by decide) (Nat.le_of_ble_eq_true rfl) dX8_look_2 (by decide) (fun u hu => ?_)
  refine V.to (lv' := [(0, .ref (o)), (1, .int (t)), (2, .int (w))]) (st := [.int (if isT tn t then 1 else 0)]) (pc' := 5) rfl rfl rfl ?_
  refine V.if_ne (tgt := 12) dX8_look_5 (by decide) (fun c_1 => ?_) (fun c_1 => ?_)
  · have p := ite1.mp c_1
    have hk := p.k.2
    have hsl : slotR I J (kN t) (T (kN t)) := by have := m11 (kN t) (by omega); rw [show 8 * 0 + kN t = kN t by omega] at this; exact this
    have hi := v14 (kN t) (by omega)
    have hok := hi.okS (v8 (kN t)) (by omega) (by omega)
    refine V.to (lv' := [(0, .ref (o)), (1, .int (nI (kN t))), (2, .int (w))]) (st := []) (by rw [← p.k.1]) rfl rfl ?_
    have hE := v7 (kN t)
    have hR := v8 (kN t)
    have hl := hi.1
    refine V.iload_n dX8_look_12 rfl rfl ?_
    by_cases h0 : w = 0
    · subst h0
      refine V.tableIn (off := 67) (tgt := 80) dX8_look_13 (by decide) (by decide) (by decide) (by decide) ?_
      refine V.aload_n dX8_look_80 rfl rfl ?_
      refine Mg7 rfl dX8_look_81 ?_
      refine V.iload_n dX8_look_84 rfl rfl ?_
      refine Ml7 (kN t) rfl (by omega) dX8_look_85 ?_
      refine V.ei (y := nI (E (kN t))) (m5 _ (by omega)) ?_
      refine V.i2l (v := lN (E (kN t))) dX8_look_86 (nI_l (by omega)) ?_
      exact V.lret () rfl (by rw [lookR, if_pos p]; rfl) trivial rfl (by decide) (by decide) dX8_look_87
    ·
      by_cases h1 : w = 1
      · subst h1
        refine V.tableIn (off := 75) (tgt := 88) dX8_look_13 (by decide) (by decide) (by decide) (by decide) ?_
        refine V.aload_n dX8_look_88 rfl rfl ?_
        refine Mg21 rfl dX8_look_89 ?_
        refine V.iload_n dX8_look_92 rfl rfl ?_
        refine Ml21 (kN t) rfl (by omega) dX8_look_93 ?_
        refine V.el (y := lN ((T (kN t)).1.1)) hsl.1 ?_
        exact V.lret () rfl (by rw [lookR, if_pos p]; rfl) trivial rfl (by decide) (by decide) dX8_look_94
      ·
        by_cases h2 : w = 2
        · subst h2
          refine V.tableIn (off := 82) (tgt := 95) dX8_look_13 (by decide) (by decide) (by decide) (by decide) ?_
          refine V.aload_n dX8_look_95 rfl rfl ?_
          refine Mg8 rfl dX8_look_96 ?_
          refine V.iload_n dX8_look_99 rfl rfl ?_
          refine Ml8 (kN t) rfl (by omega) dX8_look_100 ?_
          refine V.ei (y := nI (R (kN t))) (m6 _ (by omega)) ?_
          refine V.i2l (v := lN (R (kN t))) dX8_look_101 (nI_l (by omega)) ?_
          exact V.lret () rfl (by rw [lookR, if_pos p]; rfl) trivial rfl (by decide) (by decide) dX8_look_102
        ·
          by_cases h3 : w = 3
          · subst h3
            refine V.tableIn (off := 90) (tgt := 103) dX8_look_13 (by decide) (by decide) (by decide) (by decide) ?_
            refine V.aload_n dX8_look_103 rfl rfl ?_
            refine V.iload_n dX8_look_104 rfl rfl ?_
            refine V.iload_n dX8_look_105 rfl rfl ?_
            refine V.callV0 (c_X8_price _ G o ad sc I J (kN t) (kN t) (E (kN t)) (T (kN t)).1.1 (by omega) (by omega) (m5 _ (by omega)) (v6 _ hk) (v7 _) hsl.1 (by have := hi.2.2.1; omega)) [] 0 9 rfl rfl rfl rfl (goodV kM_X8_185 kI_X8_price kV_X8_price kN_X8 kC_X8_price) ds_X8_price (by decide) (Nat.le_of_ble_eq_true rfl) dX8_look_106 (by decide) (fun u hu => ?_)
            refine V.to (lv' := [(0, .ref (o)), (1, .int (nI (kN t))), (2, .int (3))]) (st := [.long (lN (1000 * E (kN t) / ((T (kN t)).1.1 + E (kN t))))]) (pc' := 109) rfl rfl rfl ?_
            exact V.lret () rfl (by rw [lookR, if_pos p]; rfl) trivial rfl (by decide) (by decide) dX8_look_109
          ·
            by_cases h4 : w = 4
            · subst h4
              refine V.tableIn (off := 97) (tgt := 110) dX8_look_13 (by decide) (by decide) (by decide) (by decide) ?_
              refine V.aload_n dX8_look_110 rfl rfl ?_
              refine Mg22 rfl dX8_look_111 ?_
              refine V.iload_n dX8_look_114 rfl rfl ?_
              refine Ml22 (kN t) rfl (by omega) dX8_look_115 ?_
              refine V.ei (y := nI ((T (kN t)).2.2.length)) hsl.2.2.2.2.2.2.2.2.1 ?_
              refine V.i2l (v := lN ((T (kN t)).2.2.length)) dX8_look_116 (nI_l (by omega)) ?_
              exact V.lret () rfl (by rw [lookR, if_pos p]; rfl) trivial rfl (by decide) (by decide) dX8_look_117
            ·
              by_cases h5 : w = 5
              · subst h5
                refine V.tableIn (off := 105) (tgt := 118) dX8_look_13 (by decide) (by decide) (by decide) (by decide) ?_
                refine V.aload_n dX8_look_118 rfl rfl ?_
                refine V.iload_n dX8_look_119 rfl rfl ?_
                refine V.callV0 (c_X8_trueIn _ G o ad sc I J (kN t) (T (kN t)).2.2 (by omega) hsl.2.2.2.2.2.2.2.2 hok.1) [] 0 9 rfl rfl rfl rfl (goodV kM_X8_169 kI_X8_trueIn kV_X8_trueIn kN_X8 kC_X8_trueIn) ds_X8_trueIn (by decide) (Nat.le_of_ble_eq_true rfl) dX8_look_120 (by decide) (fun u hu => ?_)
                refine V.to (lv' := [(0, .ref (o)), (1, .int (nI (kN t))), (2, .int (5))]) (st := [.long (lN (tsum (T (kN t)).2.2))]) (pc' := 123) rfl rfl rfl ?_
                exact V.lret () rfl (by rw [lookR, if_pos p]; rfl) trivial rfl (by decide) (by decide) dX8_look_123
              ·
                by_cases h6 : w = 6
                · subst h6
                  refine V.tableIn (off := 111) (tgt := 124) dX8_look_13 (by decide) (by decide) (by decide) (by decide) ?_
                  refine V.aload_n dX8_look_124 rfl rfl ?_
                  refine V.iload_n dX8_look_125 rfl rfl ?_
                  refine V.iconst (v := nI (1)) dX8_look_126 rfl ?_
                  refine V.callV0 (c_X8_bookIn _ G o ad sc I J (kN t) true (T (kN t)).2.2 (by omega) hsl.2.2.2.2.2.2.2.2 hi.1) [] 0 9 rfl rfl rfl rfl (goodV kM_X8_228 kI_X8_bookIn kV_X8_bookIn kN_X8 kC_X8_bookIn) ds_X8_bookIn (by decide) (Nat.le_of_ble_eq_true rfl) dX8_look_127 (by decide) (fun u hu => ?_)
                  refine V.to (lv' := [(0, .ref (o)), (1, .int (nI (kN t))), (2, .int (6))]) (st := [.long (bsum true (T (kN t)).2.2)]) (pc' := 130) rfl rfl rfl ?_
                  exact V.lret () rfl (by rw [lookR, if_pos p]; rfl) trivial rfl (by decide) (by decide) dX8_look_130
                ·
                  by_cases h7 : w = 7
                  · subst h7
                    refine V.tableIn (off := 118) (tgt := 131) dX8_look_13 (by decide) (by decide) (by decide) (by decide) ?_
                    refine V.aload_n dX8_look_131 rfl rfl ?_
                    refine Mg24 rfl dX8_look_132 ?_
                    refine V.iload_n dX8_look_135 rfl rfl ?_
                    refine Ml24 (kN t) rfl (by omega) dX8_look_136 ?_
                    refine V.el (y := (T (kN t)).2.1.1) hsl.2.2.1 ?_
                    exact V.lret () rfl (by rw [lookR, if_pos p]; rfl) trivial rfl (by decide) (by decide) dX8_look_137
                  ·
                    by_cases h8 : w = 8
                    · subst h8
                      refine V.tableIn (off := 125) (tgt := 138) dX8_look_13 (by decide) (by decide) (by decide) (by decide) ?_
                      refine V.aload_n dX8_look_138 rfl rfl ?_
                      refine Mg25 rfl dX8_look_139 ?_
                      refine V.iload_n dX8_look_142 rfl rfl ?_
                      refine Ml25 (kN t) rfl (by omega) dX8_look_143 ?_
                      refine V.el (y := (T (kN t)).2.1.2.1) hsl.2.2.2.1 ?_
                      exact V.lret () rfl (by rw [lookR, if_pos p]; rfl) trivial rfl (by decide) (by decide) dX8_look_144
                    ·
                      by_cases h9 : w = 9
                      · subst h9
                        refine V.tableIn (off := 132) (tgt := 145) dX8_look_13 (by decide) (by decide) (by decide) (by decide) ?_
                        refine V.aload_n dX8_look_145 rfl rfl ?_
                        refine Mg26 rfl dX8_look_146 ?_
                        refine V.iload_n dX8_look_149 rfl rfl ?_
                        refine Ml26 (kN t) rfl (by omega) dX8_look_150 ?_
                        refine V.el (y := lN ((T (kN t)).1.2)) hsl.2.1 ?_
                        exact V.lret () rfl (by rw [lookR, if_pos p]; rfl) trivial rfl (by decide) (by decide) dX8_look_151
                      ·
                        by_cases h10 : w = 10
                        · subst h10
                          refine V.tableIn (off := 139) (tgt := 152) dX8_look_13 (by decide) (by decide) (by decide) (by decide) ?_
                          refine V.aload_n dX8_look_152 rfl rfl ?_
                          refine Mg27 rfl dX8_look_153 ?_
                          refine V.iload_n dX8_look_156 rfl rfl ?_
                          refine Ml27 (kN t) rfl (by omega) dX8_look_157 ?_
                          refine V.el (y := (T (kN t)).2.1.2.2.1) hsl.2.2.2.2.1 ?_
                          exact V.lret () rfl (by rw [lookR, if_pos p]; rfl) trivial rfl (by decide) (by decide) dX8_look_158
                        ·
                          by_cases h11 : w = 11
                          · subst h11
                            refine V.tableIn (off := 146) (tgt := 159) dX8_look_13 (by decide) (by decide) (by decide) (by decide) ?_
                            refine V.aload_n dX8_look_159 rfl rfl ?_
                            refine Mg28 rfl dX8_look_160 ?_
                            refine V.iload_n dX8_look_163 rfl rfl ?_
                            refine Ml28 (kN t) rfl (by omega) dX8_look_164 ?_
                            refine V.el (y := (T (kN t)).2.1.2.2.2.1) hsl.2.2.2.2.2.1 ?_
                            exact V.lret () rfl (by rw [lookR, if_pos p]; rfl) trivial rfl (by decide) (by decide) dX8_look_165
                          ·
                            by_cases h12 : w = 12
                            · subst h12
                              refine V.tableIn (off := 153) (tgt := 166) dX8_look_13 (by decide) (by decide) (by decide) (by decide) ?_
                              refine V.aload_n dX8_look_166 rfl rfl ?_
                              refine Mg29 rfl dX8_look_167 ?_
                              refine V.iload_n dX8_look_170 rfl rfl ?_
                              refine Ml29 (kN t) rfl (by omega) dX8_look_171 ?_
                              refine V.el (y := (T (kN t)).2.1.2.2.2.2.1) hsl.2.2.2.2.2.2.1 ?_
                              exact V.lret () rfl (by rw [lookR, if_pos p]; rfl) trivial rfl (by decide) (by decide) dX8_look_172
                            ·
                              have hout : w.toInt < 0 ∨ (12 : Int) < w.toInt := sw_out (n := 12) (fun k hk => by
                                rcases (show k = 0 ∨ k = 1 ∨ k = 2 ∨ k = 3 ∨ k = 4 ∨ k = 5 ∨ k = 6 ∨ k = 7 ∨ k = 8 ∨ k = 9 ∨ k = 10 ∨ k = 11 ∨ k = 12 by omega) with rfl | rfl | rfl | rfl | rfl | rfl | rfl | rfl | rfl | rfl | rfl | rfl | rfl
                                · exact h0
                                · exact h1
                                · exact h2
                                · exact h3
                                · exact h4
                                · exact h5
                                · exact h6
                                · exact h7
                                · exact h8
                                · exact h9
                                · exact h10
                                · exact h11
                                · exact h12)
                              refine V.tableOut (tgt := 173) dX8_look_13 hout (by decide) ?_
                              refine V.ldc2 (v := -1) kK_X8_226 dX8_look_173 ?_
                              exact V.lret () rfl (by rw [lookR, if_pos p, lookV, if_neg h0, if_neg h1, if_neg h2, if_neg h3, if_neg h4, if_neg h5, if_neg h6, if_neg h7, if_neg h8, if_neg h9, if_neg h10, if_neg h11, if_neg h12]) trivial rfl (by decide) (by decide) dX8_look_176
  · have p := ite0.mp c_1
    refine V.ldc2 (v := -1) kK_X8_226 dX8_look_8 ?_
    exact V.lret () rfl (by rw [lookR, if_neg p]) trivial rfl (by decide) (by decide) dX8_look_11
set_option maxHeartbeats 4000000 in
set_option maxRecDepth 20000 in
theorem c_X8_lot (l : Launch) (G : GG) (o : Nat) (ad : Nat → Nat) (sc : Int32 × Int32 × Int32) (I : Nat → Nat → Int32) (J : Nat → Nat → Int64) (B : Nat) (tp : List Nat) (nx : Nat → Nat) (tn rn : Nat) (E R Hv : Nat → Nat) (mo co : Nat) (C : List Cr) (T : Nat → ST) (rd : Nat → Rd) (hm : mrep sc I J tp nx tn rn E R Hv mo co C T rd) (hv : sinv B tp nx tn rn E R Hv mo co C T rd) (hB : B ≤ 2 ^ 47) (t i w : Int32) : Ct l G yX8_lot cX8_lot 5 (some .int) rm_X8_lot [.ref (o), .int (t), .int (i), .int (w)] (mw G o ad sc I J) (fun u : Unit => (mw G o ad sc I J)) (fun u : Unit => some (.int (lotR tn T t i w))) (fun u : Unit => True) := by
  refine Ct.of (by decide) (Nat.le_of_ble_eq_true rfl) (fun X A hX => ?_)
  subst hX
  refine V.to (lv' := [(0, .ref (o)), (1, .int (t)), (2, .int (i)), (3, .int (w))]) (st := []) (pc' := 0) rfl rfl rfl ?_
  obtain ⟨m0, m1, m2, m3, m4, m5, m6, m7, m8, m9, m10, m11, m12, m13⟩ := id hm
  obtain ⟨⟨v0, v1⟩, ⟨v2, v3⟩, ⟨v4, v5⟩, ⟨v6, v7, v8, v9⟩, ⟨v10, v11⟩, ⟨v12, v13⟩, ⟨v14, v15⟩, v16, v17⟩ := id hv
  refine V.aload_n dX8_lot_0 rfl rfl ?_
  refine V.iload_n dX8_lot_1 rfl rfl ?_
  refine V.callV0 (c_X8_isTown _ G o ad sc I J tn t m3 v4) [] 0 9 rfl rfl rfl rfl (goodV kM_X8_155 kI_X8_isTown kV_X8_isTown kN_X8 kC_X8_isTown) ds_X8_isTown (by decide) (Nat.le_of_ble_eq_true rfl) dX8_lot_2 (by decide) (fun u hu => ?_)
  refine V.to (lv' := [(0, .ref (o)), (1, .int (t)), (2, .int (i)), (3, .int (w))]) (st := [.int (if isT tn t then 1 else 0)]) (pc' := 5) rfl rfl rfl ?_
  refine V.if_eq (tgt := 26) dX8_lot_5 (by decide) (fun c_1 => ?_) (fun c_1 => ?_)
  · have p := ite0.mp c_1
    refine V.iconst (v := -1) dX8_lot_26 (by decide) ?_
    exact V.iret () rfl (by rw [lotR, if_neg (fun z => p z.1)]) trivial rfl (by decide) (by decide) dX8_lot_27
  · have p := ite1.mp c_1
    have hk := p.k.2
    have hsl : slotR I J (kN t) (T (kN t)) := by have := m11 (kN t) (by omega); rw [show 8 * 0 + kN t = kN t by omega] at this; exact this
    have hi := v14 (kN t) (by omega)
    have hok := hi.okS (v8 (kN t)) (by omega) (by omega)
    have hl40 := hi.1
    refine V.iload_n dX8_lot_8 rfl rfl ?_
    refine V.i2l dX8_lot_9 rfl ?_
    refine V.lconst (v := lN 0) dX8_lot_10 rfl ?_
    refine V.aload_n dX8_lot_11 rfl rfl ?_
    refine Mg22 rfl dX8_lot_12 ?_
    refine V.iload_n dX8_lot_15 rfl rfl ?_
    refine Ml22 (kN t) p.k.1 (by have := p.k.2; omega) dX8_lot_16 ?_
    refine V.ei (y := nI ((T (kN t)).2.2.length)) hsl.2.2.2.2.2.2.2.2.1 ?_
    refine V.iconst (v := nI (1)) dX8_lot_17 rfl ?_
    refine V.isub dX8_lot_18 ?_
    refine V.i2l dX8_lot_19 rfl ?_
    refine V.callSE (c_X8_lies _ G ((i).toInt64) (lN (0)) (((nI ((T (kN t)).2.2.length)) - (nI (1))).toInt64)) [] rfl (goodS kM_X8_120 kS_X8_lies kN_X8 kC_X8_lies) ds_X8_lies (by decide) (Nat.le_of_ble_eq_true rfl) dX8_lot_20 (by decide) (fun u hu => ?_)
    refine V.to (lv' := [(0, .ref (o)), (1, .int (t)), (2, .int (i)), (3, .int (w))]) (st := [.int (if lN (0) ≤ (i).toInt64 ∧ (i).toInt64 ≤ ((nI ((T (kN t)).2.2.length)) - (nI (1))).toInt64 then 1 else 0)]) (pc' := 23) rfl rfl rfl ?_
    refine V.ei (y := if isT (T (kN t)).2.2.length i then 1 else 0) (liesT i (by omega)) ?_
    refine V.if_ne (tgt := 28) dX8_lot_23 (by decide) (fun c_2 => ?_) (fun c_2 => ?_)
    · have q := ite1.mp c_2
      refine V.to (lv' := [(0, .ref (o)), (1, .int (nI (kN t))), (2, .int (i)), (3, .int (w))]) (st := []) (by rw [← p.k.1]) rfl rfl ?_
      refine V.to (lv' := [(0, .ref (o)), (1, .int (nI (kN t))), (2, .int (nI (kN i))), (3, .int (w))]) (st := []) (by rw [← q.k.1]) rfl rfl ?_
      obtain ⟨l, hl⟩ := get_lt q.k.2
      have hq := q.k.2
      have he := hsl.2.2.2.2.2.2.2.2.2 (kN i) l hl
      have hget : (T (kN t)).2.2.getD (kN i) (0, 0, 0, false) = l := by rw [List.getD_eq_getElem?_getD, hl]; rfl
      refine V.bipush (v := nI (40)) dX8_lot_28 rfl ?_
      refine V.iload_n dX8_lot_30 rfl rfl ?_
      refine V.imul dX8_lot_31 ?_
      refine V.ei (pk_mul _ _) ?_
      refine V.iload_n dX8_lot_32 rfl rfl ?_
      refine V.iadd dX8_lot_33 ?_
      refine V.ei (nI_add _ _) ?_
      refine V.istore (lv' := [(4, .int (nI (((40) * (kN t)) + (kN i)))), (0, .ref (o)), (1, .int (nI (kN t))), (2, .int (nI (kN i))), (3, .int (w))]) dX8_lot_34 (by decide) rfl ?_
      refine V.iload_n dX8_lot_36 rfl rfl ?_
      refine V.if_ne (tgt := 50) dX8_lot_37 (by decide) (fun c_3 => ?_) (fun c_3 => ?_)
      · have w0 := c_3
        refine V.iload_n dX8_lot_50 rfl rfl ?_
        refine V.iconst (v := nI (1)) dX8_lot_51 rfl ?_
        refine V.icmp_ne (tgt := 65) dX8_lot_52 (by decide) (fun c_4 => ?_) (fun c_4 => ?_)
        · have w1 : ¬ w = 1 := c_4
          refine V.iload_n dX8_lot_65 rfl rfl ?_
          refine V.iconst (v := nI (2)) dX8_lot_66 rfl ?_
          refine V.icmp_ne (tgt := 88) dX8_lot_67 (by decide) (fun c_5 => ?_) (fun c_5 => ?_)
          · have w2 : ¬ w = 2 := c_5
            refine V.iconst (v := -1) dX8_lot_88 (by decide) ?_
            exact V.iret () rfl (by rw [lotR, if_pos ⟨p, q⟩, hget, lotV, if_neg w0, if_neg w1, if_neg w2]) trivial rfl (by decide) (by decide) dX8_lot_89
          · have w2 : w = 2 := c_5
            refine V.aload_n dX8_lot_70 rfl rfl ?_
            refine Mg33 rfl dX8_lot_71 ?_
            refine V.iload dX8_lot_74 rfl ?_
            refine Ml33 (((40) * (kN t)) + (kN i)) rfl (by omega) dX8_lot_76 ?_
            refine V.ei (y := bI l.2.2.2) (he.2.2.2 (by omega)) ?_
            refine V.if_eq (tgt := 84) dX8_lot_77 (by decide) (fun c_6 => ?_) (fun c_6 => ?_)
            · have b0 := (bI_eq _).mp c_6
              refine V.iconst (v := nI (0)) dX8_lot_84 rfl ?_
              refine V.goto (tgt := 89) dX8_lot_85 (by decide) ?_
              exact V.iret () rfl (by rw [lotR, if_pos ⟨p, q⟩, hget, lotV, if_neg w0, if_neg w1, if_pos w2, b0]; rfl) trivial rfl (by decide) (by decide) dX8_lot_89
            · have b0 : l.2.2.2 = true := by cases z : l.2.2.2; exact absurd (by rw [z]; rfl) c_6; rfl
              refine V.iconst (v := nI (1)) dX8_lot_80 rfl ?_
              refine V.goto (tgt := 89) dX8_lot_81 (by decide) ?_
              exact V.iret () rfl (by rw [lotR, if_pos ⟨p, q⟩, hget, lotV, if_neg w0, if_neg w1, if_pos w2, b0]; rfl) trivial rfl (by decide) (by decide) dX8_lot_89
        · have w1 : w = 1 := c_4
          refine V.aload_n dX8_lot_55 rfl rfl ?_
          refine Mg31 rfl dX8_lot_56 ?_
          refine V.iload dX8_lot_59 rfl ?_
          refine Ml31 (((40) * (kN t)) + (kN i)) rfl (by omega) dX8_lot_61 ?_
          refine V.ei (y := l.2.1) he.2.1 ?_
          refine V.goto (tgt := 89) dX8_lot_62 (by decide) ?_
          exact V.iret () rfl (by rw [lotR, if_pos ⟨p, q⟩, hget, lotV, if_neg w0, if_pos w1]) trivial rfl (by decide) (by decide) dX8_lot_89
      · have w0 := c_3
        refine V.aload_n dX8_lot_40 rfl rfl ?_
        refine Mg30 rfl dX8_lot_41 ?_
        refine V.iload dX8_lot_44 rfl ?_
        refine Ml30 (((40) * (kN t)) + (kN i)) rfl (by omega) dX8_lot_46 ?_
        refine V.ei (y := nI (l.1)) he.1 ?_
        refine V.goto (tgt := 89) dX8_lot_47 (by decide) ?_
        exact V.iret () rfl (by rw [lotR, if_pos ⟨p, q⟩, hget, lotV, if_pos w0]) trivial rfl (by decide) (by decide) dX8_lot_89
    · have q := ite0.mp c_2
      refine V.iconst (v := -1) dX8_lot_26 (by decide) ?_
      exact V.iret () rfl (by rw [lotR, if_neg (fun z => q z.2)]) trivial rfl (by decide) (by decide) dX8_lot_27
set_option maxHeartbeats 4000000 in
set_option maxRecDepth 20000 in
theorem c_X8_missing (l : Launch) (G : GG) (o : Nat) (ad : Nat → Nat) (sc : Int32 × Int32 × Int32) (I : Nat → Nat → Int32) (J : Nat → Nat → Int64) (B : Nat) (tp : List Nat) (nx : Nat → Nat) (tn rn : Nat) (E R Hv : Nat → Nat) (mo co : Nat) (C : List Cr) (T : Nat → ST) (rd : Nat → Rd) (hm : mrep sc I J tp nx tn rn E R Hv mo co C T rd) (hv : sinv B tp nx tn rn E R Hv mo co C T rd) (hB : B ≤ 2 ^ 47) (t w : Int32) : Ct l G yX8_missing cX8_missing 3 (some .long) rm_X8_missing [.ref (o), .int (t), .int (w)] (mw G o ad sc I J) (fun u : Unit => (mw G o ad sc I J)) (fun u : Unit => some (.long (missR tn T t w))) (fun u : Unit => True) := by
  refine Ct.of (by decide) (Nat.le_of_ble_eq_true rfl) (fun X A hX => ?_)
  subst hX
  refine V.to (lv' := [(0, .ref (o)), (1, .int (t)), (2, .int (w))]) (st := []) (pc' := 0) rfl rfl rfl ?_
  obtain ⟨m0, m1, m2, m3, m4, m5, m6, m7, m8, m9, m10, m11, m12, m13⟩ := id hm
  obtain ⟨⟨v0, v1⟩, ⟨v2, v3⟩, ⟨v4, v5⟩, ⟨v6, v7, v8, v9⟩, ⟨v10, v11⟩, ⟨v12, v13⟩, ⟨v14, v15⟩, v16, v17⟩ := id hv
  refine V.aload_n dX8_missing_0 rfl rfl ?_
  refine V.iload_n dX8_missing_1 rfl rfl ?_
  refine V.callV0 (c_X8_isTown _ G o ad sc I J tn t m3 v4) [] 0 9 rfl rfl rfl rfl (goodV kM_X8_155 kI_X8_isTown kV_X8_isTown kN_X8 kC_X8_isTown) ds_X8_isTown (by decide) (Nat.le_of_ble_eq_true rfl) dX8_missing_2 (by decide) (fun u hu => ?_)
  refine V.to (lv' := [(0, .ref (o)), (1, .int (t)), (2, .int (w))]) (st := [.int (if isT tn t then 1 else 0)]) (pc' := 5) rfl rfl rfl ?_
  refine V.if_ne (tgt := 12) dX8_missing_5 (by decide) (fun c_1 => ?_) (fun c_1 => ?_)
  · have p := ite1.mp c_1
    have hk := p.k.2
    have hsl : slotR I J (kN t) (T (kN t)) := by have := m11 (kN t) (by omega); rw [show 8 * 0 + kN t = kN t by omega] at this; exact this
    have hi := v14 (kN t) (by omega)
    have hok := hi.okS (v8 (kN t)) (by omega) (by omega)
    refine V.to (lv' := [(0, .ref (o)), (1, .int (nI (kN t))), (2, .int (w))]) (st := []) (by rw [← p.k.1]) rfl rfl ?_
    refine V.iload_n dX8_missing_12 rfl rfl ?_
    refine V.if_ne (tgt := 25) dX8_missing_13 (by decide) (fun c_2 => ?_) (fun c_2 => ?_)
    · have w0 := c_2
      refine V.iload_n dX8_missing_25 rfl rfl ?_
      refine V.iconst (v := nI (1)) dX8_missing_26 rfl ?_
      refine V.icmp_ne (tgt := 46) dX8_missing_27 (by decide) (fun c_3 => ?_) (fun c_3 => ?_)
      · have w1 : ¬ w = 1 := c_3
        refine V.ldc2 (v := -1) kK_X8_226 dX8_missing_46 ?_
        exact V.lret () rfl (by rw [missR, if_pos p, missV, if_neg w0, if_neg w1]) trivial rfl (by decide) (by decide) dX8_missing_49
      · have w1 : w = 1 := c_3
        refine V.aload_n dX8_missing_30 rfl rfl ?_
        refine Mg23 rfl dX8_missing_31 ?_
        refine V.iload_n dX8_missing_34 rfl rfl ?_
        refine Ml23 (kN t) rfl (by omega) dX8_missing_35 ?_
        refine V.el (y := (T (kN t)).2.1.2.2.2.2.2) hsl.2.2.2.2.2.2.2.1 ?_
        refine V.aload_n dX8_missing_36 rfl rfl ?_
        refine V.iload_n dX8_missing_37 rfl rfl ?_
        refine V.iconst (v := nI (0)) dX8_missing_38 rfl ?_
        refine V.callV0 (c_X8_bookIn _ G o ad sc I J (kN t) false (T (kN t)).2.2 (by omega) hsl.2.2.2.2.2.2.2.2 hi.1) [.long ((T (kN t)).2.1.2.2.2.2.2)] 0 9 rfl rfl rfl rfl (goodV kM_X8_228 kI_X8_bookIn kV_X8_bookIn kN_X8 kC_X8_bookIn) ds_X8_bookIn (by decide) (Nat.le_of_ble_eq_true rfl) dX8_missing_39 (by decide) (fun u hu => ?_)
        refine V.to (lv' := [(0, .ref (o)), (1, .int (nI (kN t))), (2, .int (w))]) (st := [.long (bsum false (T (kN t)).2.2), .long ((T (kN t)).2.1.2.2.2.2.2)]) (pc' := 42) rfl rfl rfl ?_
        refine V.ladd dX8_missing_42 ?_
        refine V.goto (tgt := 49) dX8_missing_43 (by decide) ?_
        exact V.lret () rfl (by rw [missR, if_pos p, missV, if_neg w0, if_pos w1]) trivial rfl (by decide) (by decide) dX8_missing_49
    · have w0 := c_2
      refine V.aload_n dX8_missing_16 rfl rfl ?_
      refine Mg23 rfl dX8_missing_17 ?_
      refine V.iload_n dX8_missing_20 rfl rfl ?_
      refine Ml23 (kN t) rfl (by omega) dX8_missing_21 ?_
      refine V.el (y := (T (kN t)).2.1.2.2.2.2.2) hsl.2.2.2.2.2.2.2.1 ?_
      refine V.goto (tgt := 49) dX8_missing_22 (by decide) ?_
      exact V.lret () rfl (by rw [missR, if_pos p, missV, if_pos w0]) trivial rfl (by decide) (by decide) dX8_missing_49
  · have p := ite0.mp c_1
    refine V.ldc2 (v := -1) kK_X8_226 dX8_missing_8 ?_
    exact V.lret () rfl (by rw [missR, if_neg p]) trivial rfl (by decide) (by decide) dX8_missing_11
set_option maxHeartbeats 4000000 in
set_option maxRecDepth 20000 in
theorem c_X8_count (l : Launch) (G : GG) (o : Nat) (ad : Nat → Nat) (sc : Int32 × Int32 × Int32) (I : Nat → Nat → Int32) (J : Nat → Nat → Int64) (B : Nat) (tp : List Nat) (nx : Nat → Nat) (tn rn : Nat) (E R Hv : Nat → Nat) (mo co : Nat) (C : List Cr) (T : Nat → ST) (rd : Nat → Rd) (hm : mrep sc I J tp nx tn rn E R Hv mo co C T rd) (hv : sinv B tp nx tn rn E R Hv mo co C T rd) (hB : B ≤ 2 ^ 47) (w : Int32) : Ct l G yX8_count cX8_count 5 (some .long) rm_X8_count [.ref (o), .int (w)] (mw G o ad sc I J) (fun u : Unit => (mw G o ad sc I J)) (fun u : Unit => some (.long (countR tp tn rn mo co C T rd w))) (fun u : Unit => True) := by
  refine Ct.of (by decide) (Nat.le_of_ble_eq_true rfl) (fun X A hX => ?_)
  subst hX
  refine V.to (lv' := [(0, .ref (o)), (1, .int (w))]) (st := []) (pc' := 0) rfl rfl rfl ?_
  obtain ⟨m0, m1, m2, m3, m4, m5, m6, m7, m8, m9, m10, m11, m12, m13⟩ := id hm
  obtain ⟨⟨v0, v1⟩, ⟨v2, v3⟩, ⟨v4, v5⟩, ⟨v6, v7, v8, v9⟩, ⟨v10, v11⟩, ⟨v12, v13⟩, ⟨v14, v15⟩, v16, v17⟩ := id hv
  have q4 : ¬ (10 ≤ (4 : Int32).toInt ∧ (4 : Int32).toInt < (10 + rn : Int)) := by rw [show (4 : Int32).toInt = 4 from by decide]; omega
  have loop : ∀ (d : Nat) (hw4 : w = 4) (i : Nat) (s : Int64), C.length - i < d → i ≤ C.length → s = lN (csum (C.take i)) → V G X yX8_count cX8_count 5 (some .long) rm_X8_count A (MZ G X rm_X8_count A (fun u : Unit => (mw G o ad sc I J)) (fun u : Unit => some (.long (countR tp tn rn mo co C T rd 4))) (fun u : Unit => True)) 0 0 (mw G o ad sc I J) [(4, .int (nI (i))), (2, .long (s)), (0, .ref (o)), (1, .int (4))] 106 [] := by
    intro d
    induction d with
    | zero => intro hw4 i s hd; exact absurd hd (Nat.not_lt_zero _)
    | succ d ih =>
      intro hw4 i s hd hi hs
      refine V.iload dX8_count_106 rfl ?_
      refine V.aload_n dX8_count_108 rfl rfl ?_
      refine Mg17 rfl dX8_count_109 ?_
      refine V.iconst (v := nI (0)) dX8_count_112 rfl ?_
      refine Ml17 (0) rfl (by omega) dX8_count_113 ?_
      refine V.ei (y := nI (C.length)) m10.1 ?_
      refine V.icmp_ge (tgt := 134) dX8_count_114 (by decide) (fun c_1 => ?_) (fun c_1 => ?_)
      · have hc := (nI_leI (by omega) (by omega)).mp c_1
        have he : i = C.length := by omega
        subst he
        rw [List.take_length] at hs
        subst hs
        refine V.lload_n dX8_count_134 rfl rfl ?_
        exact V.lret () rfl (by rw [countR, if_neg q4]; rfl) trivial rfl (by decide) (by decide) dX8_count_135
      · have hc : i < C.length := Nat.lt_of_not_le (fun h => c_1 (nI_le h (by omega)))
        obtain ⟨l, hl⟩ := get_lt hc
        have hl2 := (v13 l (List.mem_of_getElem? hl)).2.2
        refine V.lload_n dX8_count_117 rfl rfl ?_
        refine V.aload_n dX8_count_118 rfl rfl ?_
        refine Mg20 rfl dX8_count_119 ?_
        refine V.iload dX8_count_122 rfl ?_
        refine Ml20 (i) rfl (by omega) dX8_count_124 ?_
        refine V.ei (y := nI (l.2.2)) (by have := (m10.2 i l hl).2.2; rw [show 60 * 0 + i = i by omega] at this; exact this) ?_
        refine V.i2l (v := lN (l.2.2)) dX8_count_125 (nI_l (by omega)) ?_
        refine V.ladd dX8_count_126 ?_
        refine V.lstore_n (lv' := [(2, .long ((s) + (lN (l.2.2)))), (4, .int (nI (i))), (0, .ref (o)), (1, .int (4))]) dX8_count_127 rfl (by decide) rfl ?_
        refine V.iinc (k := 1) (v := nI (i + 1)) (lv' := [(4, .int (nI (i + 1))), (2, .long ((s) + (lN (l.2.2)))), (0, .ref (o)), (1, .int (4))]) dX8_count_128 rfl (iinc1 _) (by decide) rfl ?_
        refine V.goto (tgt := 106) dX8_count_131 (by decide) ?_
        refine V.pick [0, 1, 2, 3] (lv' := [(4, .int (nI (i + 1))), (2, .long ((s) + (lN (l.2.2)))), (0, .ref (o)), (1, .int (4))]) rfl ?_; exact ih hw4 (i + 1) _ (by omega) (by omega) (by rw [csum_take hl, hs, lN_add])
  refine V.lconst (v := lN 0) dX8_count_0 rfl ?_
  refine V.lstore_n (lv' := [(2, .long (lN (0))), (0, .ref (o)), (1, .int (w))]) dX8_count_1 rfl (by decide) rfl ?_
  refine V.iload_n dX8_count_2 rfl rfl ?_
  refine V.bipush (v := nI (10)) dX8_count_3 rfl ?_
  refine V.isub dX8_count_5 ?_
  refine V.i2l dX8_count_6 rfl ?_
  refine V.lconst (v := lN 0) dX8_count_7 rfl ?_
  refine V.aload_n dX8_count_8 rfl rfl ?_
  refine Mg6 rfl dX8_count_9 ?_
  refine V.ei (y := nI (rn)) m4 ?_
  refine V.iconst (v := nI (1)) dX8_count_12 rfl ?_
  refine V.isub dX8_count_13 ?_
  refine V.i2l dX8_count_14 rfl ?_
  refine V.callSE (c_X8_lies _ G (((w) - (nI (10))).toInt64) (lN (0)) (((nI (rn)) - (nI (1))).toInt64)) [] rfl (goodS kM_X8_120 kS_X8_lies kN_X8 kC_X8_lies) ds_X8_lies (by decide) (Nat.le_of_ble_eq_true rfl) dX8_count_15 (by decide) (fun u hu => ?_)
  refine V.to (lv' := [(2, .long (lN (0))), (0, .ref (o)), (1, .int (w))]) (st := [.int (if lN (0) ≤ ((w) - (nI (10))).toInt64 ∧ ((w) - (nI (10))).toInt64 ≤ ((nI (rn)) - (nI (1))).toInt64 then 1 else 0)]) (pc' := 18) rfl rfl rfl ?_
  refine V.ei (y := if 10 ≤ w.toInt ∧ w.toInt < (10 + rn : Int) then 1 else 0) (liesC w v5) ?_
  refine V.if_eq (tgt := 32) dX8_count_18 (by decide) (fun c_1 => ?_) (fun c_1 => ?_)
  · have q := ite0.mp c_1
    refine V.iload_n dX8_count_32 rfl rfl ?_
    by_cases h0 : w = 0
    · subst h0
      refine V.tableIn (off := 43) (tgt := 76) dX8_count_33 (by decide) (by decide) (by decide) (by decide) ?_
      refine V.aload_n dX8_count_76 rfl rfl ?_
      refine Mg15 rfl dX8_count_77 ?_
      refine V.iconst (v := nI (0)) dX8_count_80 rfl ?_
      refine Ml15 (0) rfl (by omega) dX8_count_81 ?_
      refine V.ei (y := nI (mo)) m8 ?_
      refine V.i2l (v := lN (mo)) dX8_count_82 (nI_l (by omega)) ?_
      exact V.lret () rfl (by rw [countR, if_neg q]; rfl) trivial rfl (by decide) (by decide) dX8_count_83
    ·
      by_cases h1 : w = 1
      · subst h1
        refine V.tableIn (off := 51) (tgt := 84) dX8_count_33 (by decide) (by decide) (by decide) (by decide) ?_
        refine V.aload_n dX8_count_84 rfl rfl ?_
        refine Mg5 rfl dX8_count_85 ?_
        refine V.ei (y := nI (tn)) m3 ?_
        refine V.i2l (v := lN (tn)) dX8_count_88 (nI_l (by omega)) ?_
        exact V.lret () rfl (by rw [countR, if_neg q]; rfl) trivial rfl (by decide) (by decide) dX8_count_89
      ·
        by_cases h2 : w = 2
        · subst h2
          refine V.tableIn (off := 57) (tgt := 90) dX8_count_33 (by decide) (by decide) (by decide) (by decide) ?_
          refine V.aload_n dX8_count_90 rfl rfl ?_
          refine Mg6 rfl dX8_count_91 ?_
          refine V.ei (y := nI (rn)) m4 ?_
          refine V.i2l (v := lN (rn)) dX8_count_94 (nI_l (by omega)) ?_
          exact V.lret () rfl (by rw [countR, if_neg q]; rfl) trivial rfl (by decide) (by decide) dX8_count_95
        ·
          by_cases h3 : w = 3
          · subst h3
            refine V.tableIn (off := 63) (tgt := 96) dX8_count_33 (by decide) (by decide) (by decide) (by decide) ?_
            refine V.aload_n dX8_count_96 rfl rfl ?_
            refine Mg16 rfl dX8_count_97 ?_
            refine V.iconst (v := nI (0)) dX8_count_100 rfl ?_
            refine Ml16 (0) rfl (by omega) dX8_count_101 ?_
            refine V.el (y := lN (co)) m9 ?_
            exact V.lret () rfl (by rw [countR, if_neg q]; rfl) trivial rfl (by decide) (by decide) dX8_count_102
          ·
            by_cases h4 : w = 4
            · subst h4
              refine V.tableIn (off := 70) (tgt := 103) dX8_count_33 (by decide) (by decide) (by decide) (by decide) ?_
              refine V.iconst (v := nI (0)) dX8_count_103 rfl ?_
              refine V.istore (lv' := [(4, .int (nI (0))), (2, .long (lN (0))), (0, .ref (o)), (1, .int (4))]) dX8_count_104 (by decide) rfl ?_
              refine V.pick [0, 1, 2, 3] (lv' := [(4, .int (nI (0))), (2, .long (lN (0))), (0, .ref (o)), (1, .int (4))]) rfl ?_; exact loop (C.length + 1) rfl 0 _ (by omega) (by omega) (by simp [csum])
            ·
              by_cases h5 : w = 5
              · subst h5
                refine V.tableIn (off := 103) (tgt := 136) dX8_count_33 (by decide) (by decide) (by decide) (by decide) ?_
                refine V.aload_n dX8_count_136 rfl rfl ?_
                refine Mg1 rfl dX8_count_137 ?_
                refine V.ei (y := nI (tp.length)) m0 ?_
                refine V.i2l (v := lN (tp.length)) dX8_count_140 (nI_l (by omega)) ?_
                exact V.lret () rfl (by rw [countR, if_neg q]; rfl) trivial rfl (by decide) (by decide) dX8_count_141
              ·
                by_cases h6 : w = 6
                · subst h6
                  refine V.tableIn (off := 109) (tgt := 142) dX8_count_33 (by decide) (by decide) (by decide) (by decide) ?_
                  refine V.aload_n dX8_count_142 rfl rfl ?_
                  refine V.iconst (v := nI (0)) dX8_count_143 rfl ?_
                  refine V.callV0 (c_X8_hungerIn _ G o ad sc I J 0 tn T (by omega) m3 v4 m11) [] 0 9 rfl rfl rfl rfl (goodV kM_X8_232 kI_X8_hungerIn kV_X8_hungerIn kN_X8 kC_X8_hungerIn) ds_X8_hungerIn (by decide) (Nat.le_of_ble_eq_true rfl) dX8_count_144 (by decide) (fun u hu => ?_)
                  refine V.to (lv' := [(2, .long (lN (0))), (0, .ref (o)), (1, .int (6))]) (st := [.long (hsum tn T)]) (pc' := 147) rfl rfl rfl ?_
                  exact V.lret () rfl (by rw [countR, if_neg q]; rfl) trivial rfl (by decide) (by decide) dX8_count_147
                ·
                  have hout : w.toInt < 0 ∨ (6 : Int) < w.toInt := sw_out (n := 6) (fun k hk => by
                    rcases (show k = 0 ∨ k = 1 ∨ k = 2 ∨ k = 3 ∨ k = 4 ∨ k = 5 ∨ k = 6 by omega) with rfl | rfl | rfl | rfl | rfl | rfl | rfl
                    · exact h0
                    · exact h1
                    · exact h2
                    · exact h3
                    · exact h4
                    · exact h5
                    · exact h6)
                  refine V.tableOut (tgt := 148) dX8_count_33 hout (by decide) ?_
                  refine V.ldc2 (v := -1) kK_X8_226 dX8_count_148 ?_
                  exact V.lret () rfl (by rw [countR, if_neg q, if_neg h0, if_neg h1, if_neg h2, if_neg h3, if_neg h4, if_neg h5, if_neg h6]) trivial rfl (by decide) (by decide) dX8_count_151
  · have q := ite1.mp c_1
    have hw : w - nI 10 = nI (kN w - 10) := by rw [ti_nI (t := w) (by omega)]; rw [show kN (nI w.toInt.toNat) = w.toInt.toNat by simp only [kN]; rw [nI_toInt (by have := w.toInt_lt; omega)]; omega]; exact pk_sub (by omega)
    have hk12 : kN w - 10 < rn := by simp only [kN]; omega
    have hus := m12 (kN w - 10) (by omega)
    have hv16 := v16 _ hk12
    refine V.aload_n dX8_count_21 rfl rfl ?_
    refine Mg14 rfl dX8_count_22 ?_
    refine V.iload_n dX8_count_25 rfl rfl ?_
    refine V.bipush (v := nI (10)) dX8_count_26 rfl ?_
    refine V.isub dX8_count_28 ?_
    refine Ml14 (kN w - 10) hw (by omega) dX8_count_29 ?_
    refine V.ei (y := nI ((rd (kN w - 10)).2.2.2.2)) hus.2.2.2.2 ?_
    refine V.i2l (v := lN ((rd (kN w - 10)).2.2.2.2)) dX8_count_30 (nI_l (by omega)) ?_
    exact V.lret () rfl (by rw [countR, if_pos q]) trivial rfl (by decide) (by decide) dX8_count_31
