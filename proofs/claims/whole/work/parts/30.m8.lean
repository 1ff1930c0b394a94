set_option maxHeartbeats 4000000 in
set_option maxRecDepth 20000 in
theorem c_X8_sends (l : Launch) (G : GG) (o : Nat) (ad : Nat → Nat) (sc : Int32 × Int32 × Int32) (I : Nat → Nat → Int32) (J : Nat → Nat → Int64) (g t r n mo : Nat) (s : ST) (d : Rd) (C : List Cr) (hg : g < 2) (ht : t < 8) (hr : r < 12) (hs : slotR I J (8 * g + t) s) (hl40 : s.2.2.length ≤ 40) (ht5 : tsum s.2.2 ≤ 50000) (hn : n ≤ 50000) (hC : crR I g C) (hC60 : C.length < 60) (hd : rdE I r d) (hd1 : d.1 < 8) (hd2 : d.2.1 < 8) (hmo : I 15 g = nI mo) : Ct l G yX8_sends cX8_sends 6 none rm_X8_sends [.ref (o), .int (nI (g)), .int (nI (t)), .int (nI (r)), .int (nI (n))] (mw G o ad sc I J) (fun u : (Nat → Nat → Int32) × (Nat → Nat → Int64) => mw G o ad sc u.1 u.2) (fun u : (Nat → Nat → Int32) × (Nat → Nat → Int64) => none) (fun u : (Nat → Nat → Int32) × (Nat → Nat → Int64) => slotR u.1 u.2 (8 * g + t) (snd n s) ∧ crR u.1 g (C ++ [(oth d t, mo + d.2.2.1, n)]) ∧ fr (pSd g t C.length) I u.1 ∧ fr (pX (8 * g + t)) J u.2) := by
  refine Ct.of (by decide) (Nat.le_of_ble_eq_true rfl) (fun X A hX => ?_)
  subst hX
  refine V.to (lv' := [(0, .ref (o)), (1, .int (nI (g))), (2, .int (nI (t))), (3, .int (nI (r))), (4, .int (nI (n)))]) (st := []) (pc' := 0) rfl rfl rfl ?_
  refine V.aload_n dX8_sends_0 rfl rfl ?_
  refine V.bipush (v := nI (8)) dX8_sends_1 rfl ?_
  refine V.iload_n dX8_sends_3 rfl rfl ?_
  refine V.imul dX8_sends_4 ?_
  refine V.ei (pk_mul _ _) ?_
  refine V.iload_n dX8_sends_5 rfl rfl ?_
  refine V.iadd dX8_sends_6 ?_
  refine V.ei (nI_add _ _) ?_
  refine V.iload dX8_sends_7 rfl ?_
  refine V.i2l (v := lN (n)) dX8_sends_9 (nI_l (by omega)) ?_
  refine V.callV0 (c_X8_takes _ G o ad sc I J (8 * g + t) n s.2.2 (by omega) hs.2.2.2.2.2.2.2.2 hl40 (fun q hq => Nat.le_trans (tsum_mem hq) ht5) (by omega)) [] 0 9 rfl rfl rfl rfl (goodV kM_X8_188 kI_X8_takes kV_X8_takes kN_X8 kC_X8_takes) ds_X8_takes (by decide) (Nat.le_of_ble_eq_true rfl) dX8_sends_10 (by decide) (fun u hu => ?_)
  rw [hs.2.2.2.2.2.2.2.1] at hu
  refine V.wd (ws' := mw G o ad sc u (up2 J 23 (8 * g + t) (tk n s.2.2 s.2.1.2.2.2.2.2).2)) (by rw [hs.2.2.2.2.2.2.2.1]) ?_
  have hC2 : crR u g C := crR_fr hu.2 hC (by omega) (by simp [pS]) (fun a b h1 h2 _ _ z => by simp only [pS] at z; omega)
  refine V.to (lv' := [(0, .ref (o)), (1, .int (nI (g))), (2, .int (nI (t))), (3, .int (nI (r))), (4, .int (nI (n)))]) (st := []) (pc' := 13) rfl rfl rfl ?_
  refine V.bipush (v := nI (60)) dX8_sends_13 rfl ?_
  refine V.iload_n dX8_sends_15 rfl rfl ?_
  refine V.imul dX8_sends_16 ?_
  refine V.ei (pk_mul _ _) ?_
  refine V.aload_n dX8_sends_17 rfl rfl ?_
  refine Mg17 rfl dX8_sends_18 ?_
  refine V.iload_n dX8_sends_21 rfl rfl ?_
  refine Ml17 (g) rfl (by omega) dX8_sends_22 ?_
  refine V.ei (y := nI (C.length)) hC2.1 ?_
  refine V.iadd dX8_sends_23 ?_
  refine V.ei (nI_add _ _) ?_
  refine V.istore (lv' := [(5, .int (nI (((60) * (g)) + (C.length)))), (0, .ref (o)), (1, .int (nI (g))), (2, .int (nI (t))), (3, .int (nI (r))), (4, .int (nI (n)))]) dX8_sends_24 (by decide) rfl ?_
  refine V.aload_n dX8_sends_26 rfl rfl ?_
  refine Mg18 rfl dX8_sends_27 ?_
  refine V.iload dX8_sends_30 rfl ?_
  refine V.aload_n dX8_sends_32 rfl rfl ?_
  refine Mg10 rfl dX8_sends_33 ?_
  refine V.iload_n dX8_sends_36 rfl rfl ?_
  refine Ml10 (r) rfl (by omega) dX8_sends_37 ?_
  refine V.ei (y := nI (d.1)) ((hu.2 10 r (by simp [pS])).trans hd.1) ?_
  refine V.iload_n dX8_sends_38 rfl rfl ?_
  refine V.icmp_ne (tgt := 51) dX8_sends_39 (by decide) (fun c_1 => ?_) (fun c_1 => ?_)
  · have e1 : ¬ d.1 = t := fun z => c_1 (by rw [z])
    refine V.aload_n dX8_sends_51 rfl rfl ?_
    refine Mg10 rfl dX8_sends_52 ?_
    refine V.iload_n dX8_sends_55 rfl rfl ?_
    refine Ml10 (r) rfl (by omega) dX8_sends_56 ?_
    refine V.ei (y := nI (d.1)) ((hu.2 10 r (by simp [pS])).trans hd.1) ?_
    refine V.ei (y := nI (oth d t)) (by rw [oth, if_neg e1]) ?_
    refine Ms18 (((60) * (g)) + (C.length)) rfl (by omega) dX8_sends_57 ?_
    refine V.aload_n dX8_sends_58 rfl rfl ?_
    refine Mg19 rfl dX8_sends_59 ?_
    refine V.iload dX8_sends_62 rfl ?_
    refine V.aload_n dX8_sends_64 rfl rfl ?_
    refine Mg15 rfl dX8_sends_65 ?_
    refine V.iload_n dX8_sends_68 rfl rfl ?_
    refine Ml15 (g) rfl (by omega) dX8_sends_69 ?_
    refine V.ei (y := nI (mo)) ((hu.2 15 g (by simp [pS])).trans hmo) ?_
    refine V.aload_n dX8_sends_70 rfl rfl ?_
    refine Mg12 rfl dX8_sends_71 ?_
    refine V.iload_n dX8_sends_74 rfl rfl ?_
    refine Ml12 (r) rfl (by omega) dX8_sends_75 ?_
    refine V.ei (y := nI (d.2.2.1)) ((hu.2 12 r (by simp [pS])).trans hd.2.2.1) ?_
    refine V.iadd dX8_sends_76 ?_
    refine V.ei (nI_add _ _) ?_
    refine Ms19 (((60) * (g)) + (C.length)) rfl (by omega) dX8_sends_77 ?_
    refine V.aload_n dX8_sends_78 rfl rfl ?_
    refine Mg20 rfl dX8_sends_79 ?_
    refine V.iload dX8_sends_82 rfl ?_
    refine V.iload dX8_sends_84 rfl ?_
    refine Ms20 (((60) * (g)) + (C.length)) rfl (by omega) dX8_sends_86 ?_
    refine V.aload_n dX8_sends_87 rfl rfl ?_
    refine Mg17 rfl dX8_sends_88 ?_
    refine V.iload_n dX8_sends_91 rfl rfl ?_
    refine V.dup2_11 dX8_sends_92 rfl rfl ?_
    refine Ml17 (g) rfl (by omega) dX8_sends_93 ?_
    refine V.ei (y := nI (C.length)) hC2.1 ?_
    refine V.iconst (v := nI (1)) dX8_sends_94 rfl ?_
    refine V.iadd dX8_sends_95 ?_
    refine V.ei (nI_add _ _) ?_
    refine Ms17 (g) rfl (by omega) dX8_sends_96 ?_
    have hw : fr (fun k j => 17 ≤ k ∧ k ≤ 20) u (up2 (w3 u (60 * g + C.length) (oth d t, mo + d.2.2.1, n)) 17 g (nI (C.length + 1))) := (w3_fr.mono (fun k j z => by omega)).tr (fr.up ⟨by omega, by omega⟩)
    exact V.vret ((up2 (up2 (up2 (up2 u 18 (((60) * (g)) + (C.length)) (nI (oth d t))) 19 (((60) * (g)) + (C.length)) (nI ((mo) + (d.2.2.1)))) 20 (((60) * (g)) + (C.length)) (nI (n))) 17 (g) (nI ((C.length) + (1)))), (up2 J 23 (8 * g + t) (tk n s.2.2 s.2.1.2.2.2.2.2).2)) rfl rfl ⟨show slotR _ _ _ (snd n s) from ⟨hs.1, hs.2.1, hs.2.2.1, hs.2.2.2.1, hs.2.2.2.2.1, hs.2.2.2.2.2.1, hs.2.2.2.2.2.2.1, (up2_s J 23 (8 * g + t) _), rowR_fr hw hu.1 (by omega) (by intros; omega)⟩, cr_push hC2, (hu.2.mono (fun _ _ z => Or.inl z)).tr (push_fr (I := u) (g := g) (t := t) (C := C) (c := (oth d t, mo + d.2.2.1, n)) (x := nI (C.length + 1))), fr.up ⟨by omega, by omega, rfl⟩⟩ rfl (by decide) (by decide) dX8_sends_97
  · have e1 : d.1 = t := (nI_eq (by omega) (by omega)).mp c_1
    refine V.aload_n dX8_sends_42 rfl rfl ?_
    refine Mg11 rfl dX8_sends_43 ?_
    refine V.iload_n dX8_sends_46 rfl rfl ?_
    refine Ml11 (r) rfl (by omega) dX8_sends_47 ?_
    refine V.ei (y := nI (d.2.1)) ((hu.2 11 r (by simp [pS])).trans hd.2.1) ?_
    refine V.goto (tgt := 57) dX8_sends_48 (by decide) ?_
    refine V.ei (y := nI (oth d t)) (by rw [oth, if_pos e1]) ?_
    refine Ms18 (((60) * (g)) + (C.length)) rfl (by omega) dX8_sends_57 ?_
    refine V.aload_n dX8_sends_58 rfl rfl ?_
    refine Mg19 rfl dX8_sends_59 ?_
    refine V.iload dX8_sends_62 rfl ?_
    refine V.aload_n dX8_sends_64 rfl rfl ?_
    refine Mg15 rfl dX8_sends_65 ?_
    refine V.iload_n dX8_sends_68 rfl rfl ?_
    refine Ml15 (g) rfl (by omega) dX8_sends_69 ?_
    refine V.ei (y := nI (mo)) ((hu.2 15 g (by simp [pS])).trans hmo) ?_
    refine V.aload_n dX8_sends_70 rfl rfl ?_
    refine Mg12 rfl dX8_sends_71 ?_
    refine V.iload_n dX8_sends_74 rfl rfl ?_
    refine Ml12 (r) rfl (by omega) dX8_sends_75 ?_
    refine V.ei (y := nI (d.2.2.1)) ((hu.2 12 r (by simp [pS])).trans hd.2.2.1) ?_
    refine V.iadd dX8_sends_76 ?_
    refine V.ei (nI_add _ _) ?_
    refine Ms19 (((60) * (g)) + (C.length)) rfl (by omega) dX8_sends_77 ?_
    refine V.aload_n dX8_sends_78 rfl rfl ?_
    refine Mg20 rfl dX8_sends_79 ?_
    refine V.iload dX8_sends_82 rfl ?_
    refine V.iload dX8_sends_84 rfl ?_
    refine Ms20 (((60) * (g)) + (C.length)) rfl (by omega) dX8_sends_86 ?_
    refine V.aload_n dX8_sends_87 rfl rfl ?_
    refine Mg17 rfl dX8_sends_88 ?_
    refine V.iload_n dX8_sends_91 rfl rfl ?_
    refine V.dup2_11 dX8_sends_92 rfl rfl ?_
    refine Ml17 (g) rfl (by omega) dX8_sends_93 ?_
    refine V.ei (y := nI (C.length)) hC2.1 ?_
    refine V.iconst (v := nI (1)) dX8_sends_94 rfl ?_
    refine V.iadd dX8_sends_95 ?_
    refine V.ei (nI_add _ _) ?_
    refine Ms17 (g) rfl (by omega) dX8_sends_96 ?_
    have hw : fr (fun k j => 17 ≤ k ∧ k ≤ 20) u (up2 (w3 u (60 * g + C.length) (oth d t, mo + d.2.2.1, n)) 17 g (nI (C.length + 1))) := (w3_fr.mono (fun k j z => by omega)).tr (fr.up ⟨by omega, by omega⟩)
    exact V.vret ((up2 (up2 (up2 (up2 u 18 (((60) * (g)) + (C.length)) (nI (oth d t))) 19 (((60) * (g)) + (C.length)) (nI ((mo) + (d.2.2.1)))) 20 (((60) * (g)) + (C.length)) (nI (n))) 17 (g) (nI ((C.length) + (1)))), (up2 J 23 (8 * g + t) (tk n s.2.2 s.2.1.2.2.2.2.2).2)) rfl rfl ⟨show slotR _ _ _ (snd n s) from ⟨hs.1, hs.2.1, hs.2.2.1, hs.2.2.2.1, hs.2.2.2.2.1, hs.2.2.2.2.2.1, hs.2.2.2.2.2.2.1, (up2_s J 23 (8 * g + t) _), rowR_fr hw hu.1 (by omega) (by intros; omega)⟩, cr_push hC2, (hu.2.mono (fun _ _ z => Or.inl z)).tr (push_fr (I := u) (g := g) (t := t) (C := C) (c := (oth d t, mo + d.2.2.1, n)) (x := nI (C.length + 1))), fr.up ⟨by omega, by omega, rfl⟩⟩ rfl (by decide) (by decide) dX8_sends_97
set_option maxHeartbeats 4000000 in
set_option maxRecDepth 20000 in
theorem c_X8_move (l : Launch) (G : GG) (o : Nat) (ad : Nat → Nat) (sc : Int32 × Int32 × Int32) (I : Nat → Nat → Int32) (J : Nat → Nat → Int64) (B : Nat) (tp : List Nat) (nx : Nat → Nat) (tn rn : Nat) (E R Hv : Nat → Nat) (mo co : Nat) (C : List Cr) (T : Nat → ST) (rd : Nat → Rd) (hm : mrep sc I J tp nx tn rn E R Hv mo co C T rd) (hv : sinv B tp nx tn rn E R Hv mo co C T rd) (hB : B ≤ 2 ^ 47) (t r n : Int32) : Ct l G yX8_move cX8_move 4 (some .boolean) rm_X8_move [.ref (o), .int (t), .int (r), .int (n)] (mw G o ad sc I J) (fun u : (Int32 × Int32 × Int32) × (Nat → Nat → Int32) × (Nat → Nat → Int64) => mw G o ad u.1 u.2.1 u.2.2) (fun u : (Int32 × Int32 × Int32) × (Nat → Nat → Int32) × (Nat → Nat → Int64) => some (.int (if isT tn t ∧ isT rn r ∧ ((rd (kN r)).1 = kN t ∨ (rd (kN r)).2.1 = kN t) ∧ isN 1 (tsum (T (kN t)).2.2) n ∧ n.toInt ≤ (((rd (kN r)).2.2.2.1 - (rd (kN r)).2.2.2.2 : Nat) : Int) ∧ C.length < 60 then 1 else 0))) (fun u : (Int32 × Int32 × Int32) × (Nat → Nat → Int32) × (Nat → Nat → Int64) => mrep u.1 u.2.1 u.2.2 tp nx tn rn E R Hv mo co (if isT tn t ∧ isT rn r ∧ ((rd (kN r)).1 = kN t ∨ (rd (kN r)).2.1 = kN t) ∧ isN 1 (tsum (T (kN t)).2.2) n ∧ n.toInt ≤ (((rd (kN r)).2.2.2.1 - (rd (kN r)).2.2.2.2 : Nat) : Int) ∧ C.length < 60 then C ++ [(oth (rd (kN r)) (kN t), mo + (rd (kN r)).2.2.1, kN n)] else C) (if isT tn t ∧ isT rn r ∧ ((rd (kN r)).1 = kN t ∨ (rd (kN r)).2.1 = kN t) ∧ isN 1 (tsum (T (kN t)).2.2) n ∧ n.toInt ≤ (((rd (kN r)).2.2.2.1 - (rd (kN r)).2.2.2.2 : Nat) : Int) ∧ C.length < 60 then upf T (kN t) (snd (kN n) (T (kN t))) else T) (if isT tn t ∧ isT rn r ∧ ((rd (kN r)).1 = kN t ∨ (rd (kN r)).2.1 = kN t) ∧ isN 1 (tsum (T (kN t)).2.2) n ∧ n.toInt ≤ (((rd (kN r)).2.2.2.1 - (rd (kN r)).2.2.2.2 : Nat) : Int) ∧ C.length < 60 then upf rd (kN r) ((rd (kN r)).1, (rd (kN r)).2.1, (rd (kN r)).2.2.1, (rd (kN r)).2.2.2.1, (rd (kN r)).2.2.2.2 + kN n) else rd)) := by
  refine Ct.of (by decide) (Nat.le_of_ble_eq_true rfl) (fun X A hX => ?_)
  subst hX
  refine V.to (lv' := [(0, .ref (o)), (1, .int (t)), (2, .int (r)), (3, .int (n))]) (st := []) (pc' := 0) rfl rfl rfl ?_
  obtain ⟨m0, m1, m2, m3, m4, m5, m6, m7, m8, m9, m10, m11, m12, m13⟩ := id hm
  obtain ⟨⟨v0, v1⟩, ⟨v2, v3⟩, ⟨v4, v5⟩, ⟨v6, v7, v8, v9⟩, ⟨v10, v11⟩, ⟨v12, v13⟩, ⟨v14, v15⟩, v16, v17⟩ := id hv
  refine V.aload_n dX8_move_0 rfl rfl ?_
  refine V.iload_n dX8_move_1 rfl rfl ?_
  refine V.callV0 (c_X8_isTown _ G o ad sc I J tn t m3 v4) [] 0 9 rfl rfl rfl rfl (goodV kM_X8_155 kI_X8_isTown kV_X8_isTown kN_X8 kC_X8_isTown) ds_X8_isTown (by decide) (Nat.le_of_ble_eq_true rfl) dX8_move_2 (by decide) (fun u hu => ?_)
  refine V.to (lv' := [(0, .ref (o)), (1, .int (t)), (2, .int (r)), (3, .int (n))]) (st := [.int (if isT tn t then 1 else 0)]) (pc' := 5) rfl rfl rfl ?_
  refine V.if_eq (tgt := 77) dX8_move_5 (by decide) (fun c_1 => ?_) (fun c_1 => ?_)
  · have p := ite0.mp c_1
    refine V.iconst (v := nI (0)) dX8_move_77 rfl ?_
    have hacc : ¬ (isT tn t ∧ isT rn r ∧ ((rd (kN r)).1 = kN t ∨ (rd (kN r)).2.1 = kN t) ∧ isN 1 (tsum (T (kN t)).2.2) n ∧ n.toInt ≤ (((rd (kN r)).2.2.2.1 - (rd (kN r)).2.2.2.2 : Nat) : Int) ∧ C.length < 60) := (fun z => p z.1)
    exact V.zret (sc, I, J) rfl rfl (by simp only [if_neg hacc]; rfl) (by simp only [if_neg hacc]; exact hm) rfl (by decide) (by decide) dX8_move_78
  · have p := ite1.mp c_1
    have hk := p.k.2
    have hsl : slotR I J (kN t) (T (kN t)) := by have := m11 (kN t) (by omega); rw [show 8 * 0 + kN t = kN t by omega] at this; exact this
    have hi := v14 (kN t) (by omega)
    have hR := v8 (kN t)
    have hok := hi.okS (v8 (kN t)) (by omega) (by omega)
    have hts := hok.1.2.1
    have hl40 := hi.1
    refine V.iload_n dX8_move_8 rfl rfl ?_
    refine V.i2l dX8_move_9 rfl ?_
    refine V.lconst (v := lN 0) dX8_move_10 rfl ?_
    refine V.aload_n dX8_move_11 rfl rfl ?_
    refine Mg6 rfl dX8_move_12 ?_
    refine V.ei (y := nI (rn)) m4 ?_
    refine V.iconst (v := nI (1)) dX8_move_15 rfl ?_
    refine V.isub dX8_move_16 ?_
    refine V.i2l dX8_move_17 rfl ?_
    refine V.callSE (c_X8_lies _ G ((r).toInt64) (lN (0)) (((nI (rn)) - (nI (1))).toInt64)) [] rfl (goodS kM_X8_120 kS_X8_lies kN_X8 kC_X8_lies) ds_X8_lies (by decide) (Nat.le_of_ble_eq_true rfl) dX8_move_18 (by decide) (fun u hu => ?_)
    refine V.to (lv' := [(0, .ref (o)), (1, .int (t)), (2, .int (r)), (3, .int (n))]) (st := [.int (if lN (0) ≤ (r).toInt64 ∧ (r).toInt64 ≤ ((nI (rn)) - (nI (1))).toInt64 then 1 else 0)]) (pc' := 21) rfl rfl rfl ?_
    refine V.ei (y := if isT rn r then 1 else 0) (liesT r (by omega)) ?_
    refine V.if_eq (tgt := 77) dX8_move_21 (by decide) (fun c_2 => ?_) (fun c_2 => ?_)
    · have q := ite0.mp c_2
      refine V.iconst (v := nI (0)) dX8_move_77 rfl ?_
      have hacc : ¬ (isT tn t ∧ isT rn r ∧ ((rd (kN r)).1 = kN t ∨ (rd (kN r)).2.1 = kN t) ∧ isN 1 (tsum (T (kN t)).2.2) n ∧ n.toInt ≤ (((rd (kN r)).2.2.2.1 - (rd (kN r)).2.2.2.2 : Nat) : Int) ∧ C.length < 60) := (fun z => q z.2.1)
      exact V.zret (sc, I, J) rfl rfl (by simp only [if_neg hacc]; rfl) (by simp only [if_neg hacc]; exact hm) rfl (by decide) (by decide) dX8_move_78
    · have q := ite1.mp c_2
      refine V.to (lv' := [(0, .ref (o)), (1, .int (nI (kN t))), (2, .int (r)), (3, .int (n))]) (st := []) (by rw [← p.k.1]) rfl rfl ?_
      refine V.to (lv' := [(0, .ref (o)), (1, .int (nI (kN t))), (2, .int (nI (kN r))), (3, .int (n))]) (st := []) (by rw [← q.k.1]) rfl rfl ?_
      have hrk := q.k.2
      have hrd := v16 _ hrk
      have hud := m12 (kN r) (by omega)
      refine V.aload_n dX8_move_24 rfl rfl ?_
      refine V.iload_n dX8_move_25 rfl rfl ?_
      refine V.iload_n dX8_move_26 rfl rfl ?_
      refine V.callV0 (c_X8_begins _ G o ad sc I J (kN r) (kN t) (rd (kN r)) (by omega) (m12 _ (by omega)) (by omega) (by omega) (by omega)) [] 0 9 rfl rfl rfl rfl (goodV kM_X8_219 kI_X8_begins kV_X8_begins kN_X8 kC_X8_begins) ds_X8_begins (by decide) (Nat.le_of_ble_eq_true rfl) dX8_move_27 (by decide) (fun u hu => ?_)
      refine V.to (lv' := [(0, .ref (o)), (1, .int (nI (kN t))), (2, .int (nI (kN r))), (3, .int (n))]) (st := [.int (if (rd (kN r)).1 = kN t ∨ (rd (kN r)).2.1 = kN t then 1 else 0)]) (pc' := 30) rfl rfl rfl ?_
      refine V.if_eq (tgt := 77) dX8_move_30 (by decide) (fun c_3 => ?_) (fun c_3 => ?_)
      · have b := ite0.mp c_3
        refine V.iconst (v := nI (0)) dX8_move_77 rfl ?_
        have hacc : ¬ (isT tn t ∧ isT rn r ∧ ((rd (kN r)).1 = kN t ∨ (rd (kN r)).2.1 = kN t) ∧ isN 1 (tsum (T (kN t)).2.2) n ∧ n.toInt ≤ (((rd (kN r)).2.2.2.1 - (rd (kN r)).2.2.2.2 : Nat) : Int) ∧ C.length < 60) := (fun z => b z.2.2.1)
        exact V.zret (sc, I, J) rfl rfl (by simp only [if_neg hacc]; rfl) (by simp only [if_neg hacc]; exact hm) rfl (by decide) (by decide) dX8_move_78
      · have b := ite1.mp c_3
        refine V.iload_n dX8_move_33 rfl rfl ?_
        refine V.iconst (v := nI (1)) dX8_move_34 rfl ?_
        refine V.icmp_lt (tgt := 77) dX8_move_35 (by decide) (fun c_4 => ?_) (fun c_4 => ?_)
        · have hn1 := (iltI n (by omega)).mp c_4
          refine V.iconst (v := nI (0)) dX8_move_77 rfl ?_
          have hacc : ¬ (isT tn t ∧ isT rn r ∧ ((rd (kN r)).1 = kN t ∨ (rd (kN r)).2.1 = kN t) ∧ isN 1 (tsum (T (kN t)).2.2) n ∧ n.toInt ≤ (((rd (kN r)).2.2.2.1 - (rd (kN r)).2.2.2.2 : Nat) : Int) ∧ C.length < 60) := (fun z => by have := z.2.2.2.1.1; omega)
          exact V.zret (sc, I, J) rfl rfl (by simp only [if_neg hacc]; rfl) (by simp only [if_neg hacc]; exact hm) rfl (by decide) (by decide) dX8_move_78
        · have hn1 : ¬ n.toInt < ((1 : Nat) : Int) := fun z => c_4 ((iltI n (k := 1) (by omega)).mpr z)
          refine V.iload_n dX8_move_38 rfl rfl ?_
          refine V.i2l dX8_move_39 rfl ?_
          refine V.aload_n dX8_move_40 rfl rfl ?_
          refine V.iload_n dX8_move_41 rfl rfl ?_
          refine V.callV0 (c_X8_trueIn _ G o ad sc I J (kN t) (T (kN t)).2.2 (by omega) hsl.2.2.2.2.2.2.2.2 hok.1) [.long ((n).toInt64)] 0 9 rfl rfl rfl rfl (goodV kM_X8_169 kI_X8_trueIn kV_X8_trueIn kN_X8 kC_X8_trueIn) ds_X8_trueIn (by decide) (Nat.le_of_ble_eq_true rfl) dX8_move_42 (by decide) (fun u hu => ?_)
          refine V.to (lv' := [(0, .ref (o)), (1, .int (nI (kN t))), (2, .int (nI (kN r))), (3, .int (n))]) (st := [.long (lN (tsum (T (kN t)).2.2)), .long ((n).toInt64)]) (pc' := 45) rfl rfl rfl ?_
          refine V.lc_gt (tgt := 77) dX8_move_45 dX8_move_46 (by decide) (fun c_5 => ?_) (fun c_5 => ?_)
          · have hn2 := (lltI n (by omega)).mp c_5
            refine V.iconst (v := nI (0)) dX8_move_77 rfl ?_
            have hacc : ¬ (isT tn t ∧ isT rn r ∧ ((rd (kN r)).1 = kN t ∨ (rd (kN r)).2.1 = kN t) ∧ isN 1 (tsum (T (kN t)).2.2) n ∧ n.toInt ≤ (((rd (kN r)).2.2.2.1 - (rd (kN r)).2.2.2.2 : Nat) : Int) ∧ C.length < 60) := (fun z => by have := z.2.2.2.1.2; omega)
            exact V.zret (sc, I, J) rfl rfl (by simp only [if_neg hacc]; rfl) (by simp only [if_neg hacc]; exact hm) rfl (by decide) (by decide) dX8_move_78
          · have nn : isN 1 (tsum (T (kN t)).2.2) n := ⟨by omega, by have : ¬ ((tsum (T (kN t)).2.2 : Nat) : Int) < n.toInt := fun z => c_5 ((lltI n (by omega)).mpr z); omega⟩
            have hnk := nn.k.2
            refine V.iload_n dX8_move_49 rfl rfl ?_
            refine V.aload_n dX8_move_50 rfl rfl ?_
            refine Mg13 rfl dX8_move_51 ?_
            refine V.iload_n dX8_move_54 rfl rfl ?_
            refine Ml13 (kN r) rfl (by omega) dX8_move_55 ?_
            refine V.ei (y := nI ((rd (kN r)).2.2.2.1)) hud.2.2.2.1 ?_
            refine V.aload_n dX8_move_56 rfl rfl ?_
            refine Mg14 rfl dX8_move_57 ?_
            refine V.iload_n dX8_move_60 rfl rfl ?_
            refine Ml14 (kN r) rfl (by omega) dX8_move_61 ?_
            refine V.ei (y := nI ((rd (kN r)).2.2.2.2)) hud.2.2.2.2 ?_
            refine V.isub dX8_move_62 ?_
            refine V.ei (y := nI ((rd (kN r)).2.2.2.1 - (rd (kN r)).2.2.2.2)) (pk_sub (by omega)) ?_
            refine V.icmp_gt (tgt := 77) dX8_move_63 (by decide) (fun c_6 => ?_) (fun c_6 => ?_)
            · have hn3 : ¬ n.toInt ≤ (((rd (kN r)).2.2.2.1 - (rd (kN r)).2.2.2.2 : Nat) : Int) := fun z => Int32.not_lt.mpr ((ileI n (by omega)).mpr z) c_6
              refine V.iconst (v := nI (0)) dX8_move_77 rfl ?_
              have hacc : ¬ (isT tn t ∧ isT rn r ∧ ((rd (kN r)).1 = kN t ∨ (rd (kN r)).2.1 = kN t) ∧ isN 1 (tsum (T (kN t)).2.2) n ∧ n.toInt ≤ (((rd (kN r)).2.2.2.1 - (rd (kN r)).2.2.2.2 : Nat) : Int) ∧ C.length < 60) := (fun z => by have := z.2.2.2.2.1; omega)
              exact V.zret (sc, I, J) rfl rfl (by simp only [if_neg hacc]; rfl) (by simp only [if_neg hacc]; exact hm) rfl (by decide) (by decide) dX8_move_78
            · have hn3 : n.toInt ≤ (((rd (kN r)).2.2.2.1 - (rd (kN r)).2.2.2.2 : Nat) : Int) := (ileI n (by omega)).mp (Int32.not_lt.mp c_6)
              refine V.aload_n dX8_move_66 rfl rfl ?_
              refine Mg17 rfl dX8_move_67 ?_
              refine V.iconst (v := nI (0)) dX8_move_70 rfl ?_
              refine Ml17 (0) rfl (by omega) dX8_move_71 ?_
              refine V.ei (y := nI (C.length)) m10.1 ?_
              refine V.bipush (v := nI (60)) dX8_move_72 rfl ?_
              refine V.icmp_ne (tgt := 79) dX8_move_74 (by decide) (fun c_7 => ?_) (fun c_7 => ?_)
              · have hc60 : C.length < 60 := by rcases Nat.lt_or_ge C.length 60 with z | z; exact z; exact absurd (by rw [show C.length = 60 by omega]) c_7
                refine V.to (lv' := [(0, .ref (o)), (1, .int (nI (kN t))), (2, .int (nI (kN r))), (3, .int (nI (kN n)))]) (st := []) (by rw [← nn.k.1]) rfl rfl ?_
                refine V.aload_n dX8_move_79 rfl rfl ?_
                refine V.iconst (v := nI (0)) dX8_move_80 rfl ?_
                refine V.iload_n dX8_move_81 rfl rfl ?_
                refine V.iload_n dX8_move_82 rfl rfl ?_
                refine V.iload_n dX8_move_83 rfl rfl ?_
                refine V.callV0 (c_X8_sends _ G o ad sc I J 0 (kN t) (kN r) (kN n) mo (T (kN t)) (rd (kN r)) C (by omega) (by omega) (by omega) (by rw [show 8 * 0 + kN t = kN t by omega]; exact hsl) hl40 hts (by omega) m10 hc60 (m12 _ (by omega)) (by omega) (by omega) m8) [] 0 9 rfl rfl rfl rfl (goodV kM_X8_222 kI_X8_sends kV_X8_sends kN_X8 kC_X8_sends) ds_X8_sends (by decide) (Nat.le_of_ble_eq_true rfl) dX8_move_84 (by decide) (fun u hu => ?_)
                rw [show 8 * 0 + kN t = kN t by omega] at hu
                refine V.to (lv' := [(0, .ref (o)), (1, .int (nI (kN t))), (2, .int (nI (kN r))), (3, .int (nI (kN n)))]) (st := []) (pc' := 87) rfl rfl rfl ?_
                refine V.aload_n dX8_move_87 rfl rfl ?_
                refine Mg14 rfl dX8_move_88 ?_
                refine V.iload_n dX8_move_91 rfl rfl ?_
                refine V.dup2_11 dX8_move_92 rfl rfl ?_
                refine Ml14 (kN r) rfl (by omega) dX8_move_93 ?_
                refine V.ei (y := nI ((rd (kN r)).2.2.2.2)) ((hu.2.2.1 14 _ (by simp [pSd, pS])).trans hud.2.2.2.2) ?_
                refine V.iload_n dX8_move_94 rfl rfl ?_
                refine V.iadd dX8_move_95 ?_
                refine V.ei (nI_add _ _) ?_
                refine Ms14 (kN r) rfl (by omega) dX8_move_96 ?_
                refine V.iconst (v := nI (1)) dX8_move_97 rfl ?_
                have hacc : isT tn t ∧ isT rn r ∧ ((rd (kN r)).1 = kN t ∨ (rd (kN r)).2.1 = kN t) ∧ isN 1 (tsum (T (kN t)).2.2) n ∧ n.toInt ≤ (((rd (kN r)).2.2.2.1 - (rd (kN r)).2.2.2.2 : Nat) : Int) ∧ C.length < 60 := ⟨p, q, b, nn, hn3, hc60⟩
                exact V.zret (sc, (up2 u.1 14 (kN r) (nI (((rd (kN r)).2.2.2.2) + (kN n)))), u.2) rfl rfl (by simp only [if_pos hacc]; rfl) (by simp only [if_pos hacc]; exact mrep_move (t := kN t) (r := kN r) (n := kN n) hm hv hk hrk hc60 hu.2.2.1 hu.2.2.2 hu.1 hu.2.1) rfl (by decide) (by decide) dX8_move_98
              · have hc60 : C.length = 60 := (nI_eq (by omega) (by omega)).mp c_7
                refine V.iconst (v := nI (0)) dX8_move_77 rfl ?_
                have hacc : ¬ (isT tn t ∧ isT rn r ∧ ((rd (kN r)).1 = kN t ∨ (rd (kN r)).2.1 = kN t) ∧ isN 1 (tsum (T (kN t)).2.2) n ∧ n.toInt ≤ (((rd (kN r)).2.2.2.1 - (rd (kN r)).2.2.2.2 : Nat) : Int) ∧ C.length < 60) := (fun z => by have := z.2.2.2.2.2; omega)
                exact V.zret (sc, I, J) rfl rfl (by simp only [if_neg hacc]; rfl) (by simp only [if_neg hacc]; exact hm) rfl (by decide) (by decide) dX8_move_78
