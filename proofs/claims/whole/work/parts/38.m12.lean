set_option maxHeartbeats 4000000 in
set_option maxRecDepth 20000 in
theorem c_X8_best (l : Launch) (G : GG) (o : Nat) (ad : Nat → Nat) (sc : Int32 × Int32 × Int32) (I : Nat → Nat → Int32) (J : Nat → Nat → Int64) (B : Nat) (tp : List Nat) (nx : Nat → Nat) (tn rn : Nat) (E R Hv : Nat → Nat) (mo co : Nat) (C : List Cr) (T : Nat → ST) (rd : Nat → Rd) (hm : mrep sc I J tp nx tn rn E R Hv mo co C T rd) (hv : sinv B tp nx tn rn E R Hv mo co C T rd) (hB : B ≤ 2 ^ 47) (t n : Int32) : Ct l G yX8_best cX8_best 10 (some .int) rm_X8_best [.ref (o), .int (t), .int (n)] (mw G o ad sc I J) (fun u : (Int32 × Int32 × Int32) × (Nat → Nat → Int32) × (Nat → Nat → Int64) => mw G o ad u.1 u.2.1 u.2.2) (fun u : (Int32 × Int32 × Int32) × (Nat → Nat → Int32) × (Nat → Nat → Int64) => some (.int (if isT tn t ∧ isN 1 24 n then (bst tn E R nx mo co C T rd (kN t) (kN n) rn).2 else -1))) (fun u : (Int32 × Int32 × Int32) × (Nat → Nat → Int32) × (Nat → Nat → Int64) => mrep u.1 u.2.1 u.2.2 tp nx tn rn E R Hv mo co C T rd) := by
  refine Ct.of (by decide) (Nat.le_of_ble_eq_true rfl) (fun X A hX => ?_)
  subst hX
  refine V.to (lv' := [(0, .ref (o)), (1, .int (t)), (2, .int (n))]) (st := []) (pc' := 0) rfl rfl rfl ?_
  obtain ⟨m0, m1, m2, m3, m4, m5, m6, m7, m8, m9, m10, m11, m12, m13⟩ := id hm
  obtain ⟨⟨v0, v1⟩, ⟨v2, v3⟩, ⟨v4, v5⟩, ⟨v6, v7, v8, v9⟩, ⟨v10, v11⟩, ⟨v12, v13⟩, ⟨v14, v15⟩, v16, v17⟩ := id hv
  have loop : ∀ (d : Nat) (p : isT tn t) (q : isN 1 24 n) (hsl : slotR I J (kN t) (T (kN t))) (hl40 : (T (kN t)).2.2.length ≤ 40) (hts : tsum (T (kN t)).2.2 ≤ 50000) (hok : okS (R (kN t)) (T (kN t))) (hk : kN t < tn) (r : Nat) (I1 : Nat → Nat → Int32) (J1 : Nat → Nat → Int64), rn - r < d → r ≤ rn → mrep sc I1 J1 tp nx tn rn E R Hv mo co C T rd → V G X yX8_best cX8_best 10 (some .int) rm_X8_best A (MZ G X rm_X8_best A (fun u : (Int32 × Int32 × Int32) × (Nat → Nat → Int32) × (Nat → Nat → Int64) => mw G o ad u.1 u.2.1 u.2.2) (fun u : (Int32 × Int32 × Int32) × (Nat → Nat → Int32) × (Nat → Nat → Int64) => some (.int (if isT tn t ∧ isN 1 24 n then (bst tn E R nx mo co C T rd (kN t) (kN n) rn).2 else -1))) (fun u : (Int32 × Int32 × Int32) × (Nat → Nat → Int32) × (Nat → Nat → Int64) => mrep u.1 u.2.1 u.2.2 tp nx tn rn E R Hv mo co C T rd)) 0 0 (mw G o ad sc I1 J1) [(6, .int (nI (r))), (5, .int ((bst tn E R nx mo co C T rd (kN t) (kN n) r).2)), (3, .long (lN ((bst tn E R nx mo co C T rd (kN t) (kN n) r).1))), (0, .ref (o)), (1, .int (nI (kN t))), (2, .int (nI (kN n)))] 38 [] := by
    intro d
    induction d with
    | zero => intro p q hsl hl40 hts hok hk r I1 J1 hd; exact absurd hd (Nat.not_lt_zero _)
    | succ d ih =>
      intro p q hsl hl40 hts hok hk r I1 J1 hd hr hm1
      have hkn := q.k.2
      have hsl1 : slotR I1 J1 (kN t) (T (kN t)) := by have := hm1.2.2.2.2.2.2.2.2.2.2.2.1 (kN t) (by omega); rw [show 8 * 0 + kN t = kN t by omega] at this; exact this
      have hbl := bst_le (tn := tn) (E := E) (R := R) (nx := nx) (mo := mo) (co := co) (C := C) (T := T) (rd := rd) (t := kN t) (n := kN n) v7 v4 r
      have hm12 := hm1.2.2.2.2.2.2.2.2.2.2.2.2.1
      have hst0 : ∀ k, tn ≤ k → ((mo, co, C ++ [bcr mo (kN t) (rd r) (T (kN t))], (fun _ => 0), upf (cpT tn J1 T) (kN t) (snd (bq (rd r) (T (kN t))) (cpT tn J1 T (kN t)))) : MS).2.2.2.2 k = st0 := fun k h1 => by show upf _ _ _ k = _; rw [show upf (cpT tn J1 T) (kN t) (snd (bq (rd r) (T (kN t))) (cpT tn J1 T (kN t))) k = cpT tn J1 T k by simp only [upf, if_neg (show ¬ k = kN t by omega)]]; simp only [cpT, if_neg (Nat.not_lt.mpr h1)]
      refine V.iload dX8_best_38 rfl ?_
      refine V.aload_n dX8_best_40 rfl rfl ?_
      refine Mg6 rfl dX8_best_41 ?_
      refine V.ei (y := nI (rn)) hm1.2.2.2.2.1 ?_
      refine V.icmp_ge (tgt := 148) dX8_best_44 (by decide) (fun c_1 => ?_) (fun c_1 => ?_)
      · have hc := (nI_leI (by omega) (by omega)).mp c_1
        have he : r = rn := by omega
        refine V.iload dX8_best_148 rfl ?_
        have hacc : isT tn t ∧ isN 1 24 n := ⟨p, q⟩
        exact V.iret (sc, I1, J1) rfl (by simp only [if_pos hacc]; rw [he]) hm1 rfl (by decide) (by decide) dX8_best_150
      · have hc : r < rn := by
          rcases Nat.lt_or_ge r rn with z | z
          · exact z
          · exact absurd (nI_le z (by omega)) c_1
        have hrd := v16 r hc
        have hud := hm12 r (by omega)
        refine V.aload_n dX8_best_47 rfl rfl ?_
        refine Mg17 rfl dX8_best_48 ?_
        refine V.iconst (v := nI (0)) dX8_best_51 rfl ?_
        refine Ml17 (0) rfl (by omega) dX8_best_52 ?_
        refine V.ei (y := nI (C.length)) hm1.2.2.2.2.2.2.2.2.2.2.1.1 ?_
        refine V.bipush (v := nI (60)) dX8_best_53 rfl ?_
        refine V.icmp_ge (tgt := 148) dX8_best_55 (by decide) (fun c_2 => ?_) (fun c_2 => ?_)
        · have hc60 := (nI_leI (by omega) (by omega)).mp c_2
          refine V.iload dX8_best_148 rfl ?_
          have hacc : isT tn t ∧ isN 1 24 n := ⟨p, q⟩
          exact V.iret (sc, I1, J1) rfl (by simp only [if_pos hacc]; rw [bst_full (by omega), bst_full (by omega)]) hm1 rfl (by decide) (by decide) dX8_best_150
        · have hc60 : C.length < 60 := by
            rcases Nat.lt_or_ge C.length 60 with z | z
            · exact z
            · exact absurd (nI_le z (by omega)) c_2
          refine V.aload_n dX8_best_58 rfl rfl ?_
          refine Mg13 rfl dX8_best_59 ?_
          refine V.iload dX8_best_62 rfl ?_
          refine Ml13 (r) rfl (by omega) dX8_best_64 ?_
          refine V.ei (y := nI ((rd r).2.2.2.1)) hud.2.2.2.1 ?_
          refine V.aload_n dX8_best_65 rfl rfl ?_
          refine Mg14 rfl dX8_best_66 ?_
          refine V.iload dX8_best_69 rfl ?_
          refine Ml14 (r) rfl (by omega) dX8_best_71 ?_
          refine V.ei (y := nI ((rd r).2.2.2.2)) hud.2.2.2.2 ?_
          refine V.isub dX8_best_72 ?_
          refine V.ei (y := nI ((rd r).2.2.2.1 - (rd r).2.2.2.2)) (pk_sub (by omega)) ?_
          refine V.i2l (v := lN ((rd r).2.2.2.1 - (rd r).2.2.2.2)) dX8_best_73 (nI_l (by omega)) ?_
          refine V.aload_n dX8_best_74 rfl rfl ?_
          refine V.iload_n dX8_best_75 rfl rfl ?_
          refine V.callV0 (c_X8_trueIn _ G o ad sc I1 J1 (kN t) (T (kN t)).2.2 (by omega) hsl1.2.2.2.2.2.2.2.2 hok.1) [.long (lN ((rd r).2.2.2.1 - (rd r).2.2.2.2))] 0 9 rfl rfl rfl rfl (goodV kM_X8_169 kI_X8_trueIn kV_X8_trueIn kN_X8 kC_X8_trueIn) ds_X8_trueIn (by decide) (Nat.le_of_ble_eq_true rfl) dX8_best_76 (by decide) (fun u hu => ?_)
          refine V.to (lv' := [(6, .int (nI (r))), (5, .int ((bst tn E R nx mo co C T rd (kN t) (kN n) r).2)), (3, .long (lN ((bst tn E R nx mo co C T rd (kN t) (kN n) r).1))), (0, .ref (o)), (1, .int (nI (kN t))), (2, .int (nI (kN n)))]) (st := [.long (lN (tsum (T (kN t)).2.2)), .long (lN ((rd r).2.2.2.1 - (rd r).2.2.2.2))]) (pc' := 79) rfl rfl rfl ?_
          refine V.callSE (c_X8_least _ G (lN ((rd r).2.2.2.1 - (rd r).2.2.2.2)) (lN (tsum (T (kN t)).2.2))) [] rfl (goodS kM_X8_177 kS_X8_least kN_X8 kC_X8_least) ds_X8_least (by decide) (Nat.le_of_ble_eq_true rfl) dX8_best_79 (by decide) (fun u hu => ?_)
          refine V.to (lv' := [(6, .int (nI (r))), (5, .int ((bst tn E R nx mo co C T rd (kN t) (kN n) r).2)), (3, .long (lN ((bst tn E R nx mo co C T rd (kN t) (kN n) r).1))), (0, .ref (o)), (1, .int (nI (kN t))), (2, .int (nI (kN n)))]) (st := [.long (if lN ((rd r).2.2.2.1 - (rd r).2.2.2.2) < lN (tsum (T (kN t)).2.2) then lN ((rd r).2.2.2.1 - (rd r).2.2.2.2) else lN (tsum (T (kN t)).2.2))]) (pc' := 82) rfl rfl rfl ?_
          refine V.el (leastN (by omega) (by omega)) ?_
          refine V.l2i (v := nI (min ((rd r).2.2.2.1 - (rd r).2.2.2.2) (tsum (T (kN t)).2.2))) dX8_best_82 (lN_i _) ?_
          refine V.ei (y := nI (bq (rd r) (T (kN t)))) (show _ = nI (bq (rd r) (T (kN t))) from rfl) ?_
          refine V.istore (lv' := [(7, .int (nI (bq (rd r) (T (kN t))))), (6, .int (nI (r))), (5, .int ((bst tn E R nx mo co C T rd (kN t) (kN n) r).2)), (3, .long (lN ((bst tn E R nx mo co C T rd (kN t) (kN n) r).1))), (0, .ref (o)), (1, .int (nI (kN t))), (2, .int (nI (kN n)))]) dX8_best_83 (by decide) rfl ?_
          have hbq : bq (rd r) (T (kN t)) ≤ 10000 := by simp only [bq]; omega
          refine V.aload_n dX8_best_85 rfl rfl ?_
          refine V.iload dX8_best_86 rfl ?_
          refine V.iload_n dX8_best_88 rfl rfl ?_
          refine V.callV0 (c_X8_begins _ G o ad sc I1 J1 r (kN t) (rd r) (by omega) hud (by omega) (by omega) (by omega)) [] 0 9 rfl rfl rfl rfl (goodV kM_X8_219 kI_X8_begins kV_X8_begins kN_X8 kC_X8_begins) ds_X8_begins (by decide) (Nat.le_of_ble_eq_true rfl) dX8_best_89 (by decide) (fun u hu => ?_)
          refine V.to (lv' := [(7, .int (nI (bq (rd r) (T (kN t))))), (6, .int (nI (r))), (5, .int ((bst tn E R nx mo co C T rd (kN t) (kN n) r).2)), (3, .long (lN ((bst tn E R nx mo co C T rd (kN t) (kN n) r).1))), (0, .ref (o)), (1, .int (nI (kN t))), (2, .int (nI (kN n)))]) (st := [.int (if (rd r).1 = kN t ∨ (rd r).2.1 = kN t then 1 else 0)]) (pc' := 92) rfl rfl rfl ?_
          skip
          refine V.if_eq (tgt := 142) dX8_best_92 (by decide) (fun c_3 => ?_) (fun c_3 => ?_)
          · have b := ite0.mp c_3
            refine V.iinc (k := 1) (v := nI (r + 1)) (lv' := [(6, .int (nI (r + 1))), (7, .int (nI (bq (rd r) (T (kN t))))), (5, .int ((bst tn E R nx mo co C T rd (kN t) (kN n) r).2)), (3, .long (lN ((bst tn E R nx mo co C T rd (kN t) (kN n) r).1))), (0, .ref (o)), (1, .int (nI (kN t))), (2, .int (nI (kN n)))]) dX8_best_142 rfl (iinc1 _) (by decide) rfl ?_
            refine V.goto (tgt := 38) dX8_best_145 (by decide) ?_
            have hbs : (bst tn E R nx mo co C T rd (kN t) (kN n) (r + 1)) = (bst tn E R nx mo co C T rd (kN t) (kN n) r) := by rw [bst, if_neg (fun z => b z.2.1)]
            refine V.pick [0, 2, 3, 4, 5, 6] (lv' := [(6, .int (nI (r + 1))), (5, .int ((bst tn E R nx mo co C T rd (kN t) (kN n) r).2)), (3, .long (lN ((bst tn E R nx mo co C T rd (kN t) (kN n) r).1))), (0, .ref (o)), (1, .int (nI (kN t))), (2, .int (nI (kN n)))]) rfl ?_; have hih := ih p q hsl hl40 hts hok hk (r + 1) I1 J1 (by omega) (by omega) hm1; rw [hbs] at hih; exact hih
          · have b := ite1.mp c_3
            skip
            refine V.iload dX8_best_95 rfl ?_
            refine V.iconst (v := nI (1)) dX8_best_97 rfl ?_
            refine V.icmp_ge (tgt := 104) dX8_best_98 (by decide) (fun c_4 => ?_) (fun c_4 => ?_)
            · have hq1 : 1 ≤ bq (rd r) (T (kN t)) := (nI_leI (by omega) (by omega)).mp c_4
              refine V.aload_n dX8_best_104 rfl rfl ?_
              refine V.callV0 (c_X8_copies _ G o ad sc I1 J1 B tp nx tn rn E R Hv mo co C T rd hm1 hv hB) [] 0 9 rfl rfl rfl rfl (goodV kM_X8_235 kI_X8_copies kV_X8_copies kN_X8 kC_X8_copies) ds_X8_copies (by decide) (Nat.le_of_ble_eq_true rfl) dX8_best_105 (by decide) (fun u hu => ?_)
              have hmu := mrep_g1 hm1 hv hu
              have hscp : slotR u.1 u.2 (8 * 1 + kN t) (cpT tn J1 T (kN t)) := hu.1 (kN t) (by omega)
              have hcpl : (cpT tn J1 T (kN t)).2.2 = (T (kN t)).2.2 := by simp only [cpT, if_pos hk]
              refine V.to (lv' := [(7, .int (nI (bq (rd r) (T (kN t))))), (6, .int (nI (r))), (5, .int ((bst tn E R nx mo co C T rd (kN t) (kN n) r).2)), (3, .long (lN ((bst tn E R nx mo co C T rd (kN t) (kN n) r).1))), (0, .ref (o)), (1, .int (nI (kN t))), (2, .int (nI (kN n)))]) (st := []) (pc' := 108) rfl rfl rfl ?_
              refine V.aload_n dX8_best_108 rfl rfl ?_
              refine V.iconst (v := nI (1)) dX8_best_109 rfl ?_
              refine V.iload_n dX8_best_110 rfl rfl ?_
              refine V.iload dX8_best_111 rfl ?_
              refine V.iload dX8_best_113 rfl ?_
              refine V.callV0 (c_X8_sends _ G o ad sc u.1 u.2 1 (kN t) r (bq (rd r) (T (kN t))) mo (cpT tn J1 T (kN t)) (rd r) C (by omega) (by omega) (by omega) hscp (by rw [hcpl]; exact hl40) (by rw [hcpl]; exact hts) (by omega) hu.2.2.2.1 hc60 (hmu.2.2.2.2.2.2.2.2.2.2.2.2.1 r (by omega)) (by omega) (by omega) hu.2.2.1) [] 0 9 rfl rfl rfl rfl (goodV kM_X8_222 kI_X8_sends kV_X8_sends kN_X8 kC_X8_sends) ds_X8_sends (by decide) (Nat.le_of_ble_eq_true rfl) dX8_best_115 (by decide) (fun u2 hu2 => ?_)
              have hst2 : mst I1 J1 1 u2.1 u2.2 (mo, co, C ++ [bcr mo (kN t) (rd r) (T (kN t))], (fun _ => 0), upf (cpT tn J1 T) (kN t) (snd (bq (rd r) (T (kN t))) (cpT tn J1 T (kN t)))) := mst_send (x := (mo, co, C, (fun _ => 0), cpT tn J1 T)) hu (fun k hk8 => (cp_inv (tn := tn) (J := J1) v14 k hk8).1) (by omega) hc60 hu2.1 hu2.2.1 hu2.2.2.1 hu2.2.2.2
              have hm2 := mrep_g1x (y := (mo, co, C ++ [bcr mo (kN t) (rd r) (T (kN t))], (fun _ => 0), upf (cpT tn J1 T) (kN t) (snd (bq (rd r) (T (kN t))) (cpT tn J1 T (kN t))))) hm1 hv hst2 (fun _ _ => rfl) hst0
              refine V.to (lv' := [(7, .int (nI (bq (rd r) (T (kN t))))), (6, .int (nI (r))), (5, .int ((bst tn E R nx mo co C T rd (kN t) (kN n) r).2)), (3, .long (lN ((bst tn E R nx mo co C T rd (kN t) (kN n) r).1))), (0, .ref (o)), (1, .int (nI (kN t))), (2, .int (nI (kN n)))]) (st := []) (pc' := 118) rfl rfl rfl ?_
              refine V.aload_n dX8_best_118 rfl rfl ?_
              refine V.iload_n dX8_best_119 rfl rfl ?_
              refine V.callV0 (c_X8_goesOn _ G o ad sc u2.1 u2.2 B tp nx tn rn E R Hv mo co C T rd hm2 hv hB I1 J1 B (1000000000 + 100000000 * mo) (kN n) (mo, co, C ++ [bcr mo (kN t) (rd r) (T (kN t))], (fun _ => 0), upf (cpT tn J1 T) (kN t) (snd (bq (rd r) (T (kN t))) (cpT tn J1 T (kN t)))) (by omega) v10 hst2 (send_msI (T := T) (t := kN t) (d := (rd r)) (cp_inv (tn := tn) (J := J1) v14) v11 v10 hc60 v13 hrd.1 hrd.2.1 hrd.2.2.2.1 hrd.2.2.2.2.1) hB (by omega) (fun _ => rfl)) [] 0 9 rfl rfl rfl rfl (goodV kM_X8_238 kI_X8_goesOn kV_X8_goesOn kN_X8 kC_X8_goesOn) ds_X8_goesOn (by decide) (Nat.le_of_ble_eq_true rfl) dX8_best_120 (by decide) (fun u3 hu3 => ?_)
              have hm3 := (mrep_g1x (y := (mo, co, C ++ [bcr mo (kN t) (rd r) (T (kN t))], (fun _ => 0), upf (cpT tn J1 T) (kN t) (snd (bq (rd r) (T (kN t))) (cpT tn J1 T (kN t))))) hm1 hv hu3 (its_at (fun k c hc => ((msI_its (E := E) (send_msI (T := T) (t := kN t) (d := (rd r)) (cp_inv (tn := tn) (J := J1) v14) v11 v10 hc60 v13 hrd.1 hrd.2.1 hrd.2.2.2.1 hrd.2.2.2.2.1) v4 (v2 3 (by omega)) v3 k).2.2.1.2 c hc).1) (kN n)) hst0)
              have hbf : bfore tn E R nx mo co C T (kN t) (kN n) (rd r) ≤ 8000 * kN n := foreN_le v7 v4 _
              refine V.to (lv' := [(7, .int (nI (bq (rd r) (T (kN t))))), (6, .int (nI (r))), (5, .int ((bst tn E R nx mo co C T rd (kN t) (kN n) r).2)), (3, .long (lN ((bst tn E R nx mo co C T rd (kN t) (kN n) r).1))), (0, .ref (o)), (1, .int (nI (kN t))), (2, .int (nI (kN n)))]) (st := [.long (hsum tn (mits tn E R nx (kN n) (mo, co, C ++ [bcr mo (kN t) (rd r) (T (kN t))], (fun _ => 0), upf (cpT tn J1 T) (kN t) (snd (bq (rd r) (T (kN t))) (cpT tn J1 T (kN t))))).2.2.2.2)]) (pc' := 123) rfl rfl rfl ?_
              refine V.el (y := lN (bfore tn E R nx mo co C T (kN t) (kN n) (rd r))) (bfore_cp (fun c hc => (v13 c hc).1) (by simp only [oth]; split <;> omega) hk _) ?_
              skip
              refine V.lstore (lv' := [(8, .long (lN (bfore tn E R nx mo co C T (kN t) (kN n) (rd r)))), (7, .int (nI (bq (rd r) (T (kN t))))), (6, .int (nI (r))), (5, .int ((bst tn E R nx mo co C T rd (kN t) (kN n) r).2)), (3, .long (lN ((bst tn E R nx mo co C T rd (kN t) (kN n) r).1))), (0, .ref (o)), (1, .int (nI (kN t))), (2, .int (nI (kN n)))]) dX8_best_123 (by decide) rfl ?_
              refine V.lload dX8_best_125 rfl ?_
              refine V.lload_n dX8_best_127 rfl rfl ?_
              refine V.lc_lt (tgt := 135) dX8_best_128 dX8_best_129 (by decide) (fun c_5 => ?_) (fun c_5 => ?_)
              · have hl : bfore tn E R nx mo co C T (kN t) (kN n) (rd r) < (bst tn E R nx mo co C T rd (kN t) (kN n) r).1 := (pk_lLT (by omega) (by omega)).mp c_5
                skip
                refine V.lload dX8_best_135 rfl ?_
                refine V.lstore_n (lv' := [(3, .long (lN (bfore tn E R nx mo co C T (kN t) (kN n) (rd r)))), (8, .long (lN (bfore tn E R nx mo co C T (kN t) (kN n) (rd r)))), (7, .int (nI (bq (rd r) (T (kN t))))), (6, .int (nI (r))), (5, .int ((bst tn E R nx mo co C T rd (kN t) (kN n) r).2)), (0, .ref (o)), (1, .int (nI (kN t))), (2, .int (nI (kN n)))]) dX8_best_137 rfl (by decide) rfl ?_
                refine V.iload dX8_best_138 rfl ?_
                refine V.istore (lv' := [(5, .int (nI (r))), (3, .long (lN (bfore tn E R nx mo co C T (kN t) (kN n) (rd r)))), (8, .long (lN (bfore tn E R nx mo co C T (kN t) (kN n) (rd r)))), (7, .int (nI (bq (rd r) (T (kN t))))), (6, .int (nI (r))), (0, .ref (o)), (1, .int (nI (kN t))), (2, .int (nI (kN n)))]) dX8_best_140 (by decide) rfl ?_
                refine V.iinc (k := 4) (v := nI (r + 1)) (lv' := [(6, .int (nI (r + 1))), (5, .int (nI (r))), (3, .long (lN (bfore tn E R nx mo co C T (kN t) (kN n) (rd r)))), (8, .long (lN (bfore tn E R nx mo co C T (kN t) (kN n) (rd r)))), (7, .int (nI (bq (rd r) (T (kN t))))), (0, .ref (o)), (1, .int (nI (kN t))), (2, .int (nI (kN n)))]) dX8_best_142 rfl (iinc1 _) (by decide) rfl ?_
                refine V.goto (tgt := 38) dX8_best_145 (by decide) ?_
                have hbs : (bst tn E R nx mo co C T rd (kN t) (kN n) (r + 1)) = (bfore tn E R nx mo co C T (kN t) (kN n) (rd r), nI r) := by rw [bst, if_pos ⟨hc60, b, hq1, hl⟩]
                refine V.pick [0, 1, 2, 5, 6, 7] (lv' := [(6, .int (nI (r + 1))), (5, .int (nI (r))), (3, .long (lN (bfore tn E R nx mo co C T (kN t) (kN n) (rd r)))), (0, .ref (o)), (1, .int (nI (kN t))), (2, .int (nI (kN n)))]) rfl ?_; have hih := ih p q hsl hl40 hts hok hk (r + 1) u3.1 u3.2 (by omega) (by omega) hm3; rw [hbs] at hih; exact hih
              · have hnl : ¬ bfore tn E R nx mo co C T (kN t) (kN n) (rd r) < (bst tn E R nx mo co C T rd (kN t) (kN n) r).1 := fun z => c_5 ((pk_lLT (by omega) (by omega)).mpr z)
                skip
                refine V.goto (tgt := 142) dX8_best_132 (by decide) ?_
                refine V.iinc (k := 2) (v := nI (r + 1)) (lv' := [(6, .int (nI (r + 1))), (8, .long (lN (bfore tn E R nx mo co C T (kN t) (kN n) (rd r)))), (7, .int (nI (bq (rd r) (T (kN t))))), (5, .int ((bst tn E R nx mo co C T rd (kN t) (kN n) r).2)), (3, .long (lN ((bst tn E R nx mo co C T rd (kN t) (kN n) r).1))), (0, .ref (o)), (1, .int (nI (kN t))), (2, .int (nI (kN n)))]) dX8_best_142 rfl (iinc1 _) (by decide) rfl ?_
                refine V.goto (tgt := 38) dX8_best_145 (by decide) ?_
                have hbs : (bst tn E R nx mo co C T rd (kN t) (kN n) (r + 1)) = (bst tn E R nx mo co C T rd (kN t) (kN n) r) := by rw [bst, if_neg (fun z => hnl z.2.2.2)]
                refine V.pick [0, 3, 4, 5, 6, 7] (lv' := [(6, .int (nI (r + 1))), (5, .int ((bst tn E R nx mo co C T rd (kN t) (kN n) r).2)), (3, .long (lN ((bst tn E R nx mo co C T rd (kN t) (kN n) r).1))), (0, .ref (o)), (1, .int (nI (kN t))), (2, .int (nI (kN n)))]) rfl ?_; have hih := ih p q hsl hl40 hts hok hk (r + 1) u3.1 u3.2 (by omega) (by omega) hm3; rw [hbs] at hih; exact hih
            · have hq0 : ¬ 1 ≤ bq (rd r) (T (kN t)) := fun z => c_4 (nI_le z (by omega))
              skip
              refine V.goto (tgt := 142) dX8_best_101 (by decide) ?_
              refine V.iinc (k := 1) (v := nI (r + 1)) (lv' := [(6, .int (nI (r + 1))), (7, .int (nI (bq (rd r) (T (kN t))))), (5, .int ((bst tn E R nx mo co C T rd (kN t) (kN n) r).2)), (3, .long (lN ((bst tn E R nx mo co C T rd (kN t) (kN n) r).1))), (0, .ref (o)), (1, .int (nI (kN t))), (2, .int (nI (kN n)))]) dX8_best_142 rfl (iinc1 _) (by decide) rfl ?_
              refine V.goto (tgt := 38) dX8_best_145 (by decide) ?_
              have hbs : (bst tn E R nx mo co C T rd (kN t) (kN n) (r + 1)) = (bst tn E R nx mo co C T rd (kN t) (kN n) r) := by rw [bst, if_neg (fun z => by have := z.2.2.1; omega)]
              refine V.pick [0, 2, 3, 4, 5, 6] (lv' := [(6, .int (nI (r + 1))), (5, .int ((bst tn E R nx mo co C T rd (kN t) (kN n) r).2)), (3, .long (lN ((bst tn E R nx mo co C T rd (kN t) (kN n) r).1))), (0, .ref (o)), (1, .int (nI (kN t))), (2, .int (nI (kN n)))]) rfl ?_; have hih := ih p q hsl hl40 hts hok hk (r + 1) I1 J1 (by omega) (by omega) hm1; rw [hbs] at hih; exact hih
  refine V.aload_n dX8_best_0 rfl rfl ?_
  refine V.iload_n dX8_best_1 rfl rfl ?_
  refine V.callV0 (c_X8_isTown _ G o ad sc I J tn t m3 v4) [] 0 9 rfl rfl rfl rfl (goodV kM_X8_155 kI_X8_isTown kV_X8_isTown kN_X8 kC_X8_isTown) ds_X8_isTown (by decide) (Nat.le_of_ble_eq_true rfl) dX8_best_2 (by decide) (fun u hu => ?_)
  refine V.to (lv' := [(0, .ref (o)), (1, .int (t)), (2, .int (n))]) (st := [.int (if isT tn t then 1 else 0)]) (pc' := 5) rfl rfl rfl ?_
  refine V.if_eq (tgt := 20) dX8_best_5 (by decide) (fun c_1 => ?_) (fun c_1 => ?_)
  · have p := ite0.mp c_1
    refine V.iconst (v := -1) dX8_best_20 (by decide) ?_
    exact V.iret (sc, I, J) rfl (by rw [if_neg (fun z => p z.1)]) hm rfl (by decide) (by decide) dX8_best_21
  · have p := ite1.mp c_1
    have hk := p.k.2
    have hsl : slotR I J (kN t) (T (kN t)) := by have := m11 (kN t) (by omega); rw [show 8 * 0 + kN t = kN t by omega] at this; exact this
    have hi := v14 (kN t) (by omega)
    have hR := v8 (kN t)
    have hok := hi.okS (v8 (kN t)) (by omega) (by omega)
    have hts := hok.1.2.1
    have hl40 := hi.1
    refine V.iload_n dX8_best_8 rfl rfl ?_
    refine V.i2l dX8_best_9 rfl ?_
    refine V.lconst (v := lN 1) dX8_best_10 rfl ?_
    refine V.ldc2 (v := 24) kK_X8_213 dX8_best_11 ?_
    refine V.el (y := lN 24) rfl ?_
    refine V.callSE (c_X8_lies _ G ((n).toInt64) (lN (1)) (lN (24))) [] rfl (goodS kM_X8_120 kS_X8_lies kN_X8 kC_X8_lies) ds_X8_lies (by decide) (Nat.le_of_ble_eq_true rfl) dX8_best_14 (by decide) (fun u hu => ?_)
    refine V.to (lv' := [(0, .ref (o)), (1, .int (t)), (2, .int (n))]) (st := [.int (if lN (1) ≤ (n).toInt64 ∧ (n).toInt64 ≤ lN (24) then 1 else 0)]) (pc' := 17) rfl rfl rfl ?_
    refine V.ei (y := if isN 1 24 n then 1 else 0) (liesI n (by omega) (by omega)) ?_
    refine V.if_ne (tgt := 22) dX8_best_17 (by decide) (fun c_2 => ?_) (fun c_2 => ?_)
    · have q := ite1.mp c_2
      refine V.to (lv' := [(0, .ref (o)), (1, .int (nI (kN t))), (2, .int (n))]) (st := []) (by rw [← p.k.1]) rfl rfl ?_
      refine V.to (lv' := [(0, .ref (o)), (1, .int (nI (kN t))), (2, .int (nI (kN n)))]) (st := []) (by rw [← q.k.1]) rfl rfl ?_
      refine V.aload_n dX8_best_22 rfl rfl ?_
      refine V.callV0 (c_X8_copies _ G o ad sc I J B tp nx tn rn E R Hv mo co C T rd hm hv hB) [] 0 9 rfl rfl rfl rfl (goodV kM_X8_235 kI_X8_copies kV_X8_copies kN_X8 kC_X8_copies) ds_X8_copies (by decide) (Nat.le_of_ble_eq_true rfl) dX8_best_23 (by decide) (fun u hu => ?_)
      have hm1 := mrep_g1 hm hv hu
      refine V.to (lv' := [(0, .ref (o)), (1, .int (nI (kN t))), (2, .int (nI (kN n)))]) (st := []) (pc' := 26) rfl rfl rfl ?_
      refine V.aload_n dX8_best_26 rfl rfl ?_
      refine V.iload_n dX8_best_27 rfl rfl ?_
      refine V.callV0 (c_X8_goesOn _ G o ad sc u.1 u.2 B tp nx tn rn E R Hv mo co C T rd hm1 hv hB I J B (1000000000 + 100000000 * mo) (kN n) (mo, co, C, (fun _ => 0), cpT tn J T) (by have := q.k.2; omega) v10 hu ⟨fun t ht => cp_inv v14 t ht, v11, ⟨v12, v13⟩, fun _ => Nat.zero_le _⟩ hB (by omega) (fun _ => rfl)) [] 0 9 rfl rfl rfl rfl (goodV kM_X8_238 kI_X8_goesOn kV_X8_goesOn kN_X8 kC_X8_goesOn) ds_X8_goesOn (by decide) (Nat.le_of_ble_eq_true rfl) dX8_best_28 (by decide) (fun u2 hu2 => ?_)
      have hm2 := mrep_g1x (y := (mo, co, C, (fun _ => 0), cpT tn J T)) hm hv hu2 (its_at (fun k c hc => ((msI_its (E := E) (show msI tn R B (1000000000 + 100000000 * mo) (mo, co, C, (fun _ => 0), cpT tn J T) from ⟨fun t ht => cp_inv v14 t ht, v11, ⟨v12, v13⟩, fun _ => Nat.zero_le _⟩) v4 (v2 3 (by omega)) v3 k).2.2.1.2 c hc).1) (kN n))
      refine V.to (lv' := [(0, .ref (o)), (1, .int (nI (kN t))), (2, .int (nI (kN n)))]) (st := [.long (hsum tn (mits tn E R nx (kN n) (mo, co, C, (fun _ => 0), cpT tn J T)).2.2.2.2)]) (pc' := 31) rfl rfl rfl ?_
      refine V.el (y := lN ((bst tn E R nx mo co C T rd (kN t) (kN n) 0).1)) (fore_cp (fun c hc => (v13 c hc).1) _) ?_
      skip
      refine V.lstore_n (lv' := [(3, .long (lN ((bst tn E R nx mo co C T rd (kN t) (kN n) 0).1))), (0, .ref (o)), (1, .int (nI (kN t))), (2, .int (nI (kN n)))]) dX8_best_31 rfl (by decide) rfl ?_
      refine V.iconst (v := -1) dX8_best_32 (by decide) ?_
      refine V.istore (lv' := [(5, .int (-1)), (3, .long (lN ((bst tn E R nx mo co C T rd (kN t) (kN n) 0).1))), (0, .ref (o)), (1, .int (nI (kN t))), (2, .int (nI (kN n)))]) dX8_best_33 (by decide) rfl ?_
      refine V.iconst (v := nI (0)) dX8_best_35 rfl ?_
      refine V.istore (lv' := [(6, .int (nI (0))), (5, .int (-1)), (3, .long (lN ((bst tn E R nx mo co C T rd (kN t) (kN n) 0).1))), (0, .ref (o)), (1, .int (nI (kN t))), (2, .int (nI (kN n)))]) dX8_best_36 (by decide) rfl ?_
      refine V.pick [0, 1, 2, 3, 4, 5] (lv' := [(6, .int (nI (0))), (5, .int (-1)), (3, .long (lN ((bst tn E R nx mo co C T rd (kN t) (kN n) 0).1))), (0, .ref (o)), (1, .int (nI (kN t))), (2, .int (nI (kN n)))]) rfl ?_; exact loop (rn + 1) p q hsl hl40 hts hok hk 0 u2.1 u2.2 (by omega) (by omega) hm2
    · have q := ite0.mp c_2
      refine V.iconst (v := -1) dX8_best_20 (by decide) ?_
      exact V.iret (sc, I, J) rfl (by rw [if_neg (fun z => q z.2)]) hm rfl (by decide) (by decide) dX8_best_21
