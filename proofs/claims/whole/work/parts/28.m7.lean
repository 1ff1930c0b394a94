set_option maxHeartbeats 4000000 in
set_option maxRecDepth 20000 in
theorem c_X8_loan (l : Launch) (G : GG) (o : Nat) (ad : Nat → Nat) (sc : Int32 × Int32 × Int32) (I : Nat → Nat → Int32) (J : Nat → Nat → Int64) (B : Nat) (tp : List Nat) (nx : Nat → Nat) (tn rn : Nat) (E R Hv : Nat → Nat) (mo co : Nat) (C : List Cr) (T : Nat → ST) (rd : Nat → Rd) (hm : mrep sc I J tp nx tn rn E R Hv mo co C T rd) (hv : sinv B tp nx tn rn E R Hv mo co C T rd) (hB : B ≤ 2 ^ 47) (t n : Int32) : Ct l G yX8_loan cX8_loan 3 (some .long) rm_X8_loan [.ref (o), .int (t), .int (n)] (mw G o ad sc I J) (fun u : (Int32 × Int32 × Int32) × (Nat → Nat → Int32) × (Nat → Nat → Int64) => mw G o ad u.1 u.2.1 u.2.2) (fun u : (Int32 × Int32 × Int32) × (Nat → Nat → Int32) × (Nat → Nat → Int64) => some (.long (if isT tn t ∧ isN 1 (tsum (T (kN t)).2.2) n then lN ((T (kN t)).1.2 + lndO (kN n) (nx 4)) else -1))) (fun u : (Int32 × Int32 × Int32) × (Nat → Nat → Int32) × (Nat → Nat → Int64) => mrep u.1 u.2.1 u.2.2 tp nx tn rn E R Hv mo co C (if isT tn t ∧ isN 1 (tsum (T (kN t)).2.2) n then upf T (kN t) (lnd (kN n) (nx 4) (T (kN t))) else T) rd) := by
  refine Ct.of (by decide) (Nat.le_of_ble_eq_true rfl) (fun X A hX => ?_)
  subst hX
  refine V.to (lv' := [(0, .ref (o)), (1, .int (t)), (2, .int (n))]) (st := []) (pc' := 0) rfl rfl rfl ?_
  obtain ⟨m0, m1, m2, m3, m4, m5, m6, m7, m8, m9, m10, m11, m12, m13⟩ := id hm
  obtain ⟨⟨v0, v1⟩, ⟨v2, v3⟩, ⟨v4, v5⟩, ⟨v6, v7, v8, v9⟩, ⟨v10, v11⟩, ⟨v12, v13⟩, ⟨v14, v15⟩, v16, v17⟩ := id hv
  refine V.aload_n dX8_loan_0 rfl rfl ?_
  refine V.iload_n dX8_loan_1 rfl rfl ?_
  refine V.callV0 (c_X8_isTown _ G o ad sc I J tn t m3 v4) [] 0 9 rfl rfl rfl rfl (goodV kM_X8_155 kI_X8_isTown kV_X8_isTown kN_X8 kC_X8_isTown) ds_X8_isTown (by decide) (Nat.le_of_ble_eq_true rfl) dX8_loan_2 (by decide) (fun u hu => ?_)
  refine V.to (lv' := [(0, .ref (o)), (1, .int (t)), (2, .int (n))]) (st := [.int (if isT tn t then 1 else 0)]) (pc' := 5) rfl rfl rfl ?_
  refine V.if_eq (tgt := 24) dX8_loan_5 (by decide) (fun c_1 => ?_) (fun c_1 => ?_)
  · have p := ite0.mp c_1
    refine V.ldc2 (v := -1) kK_X8_226 dX8_loan_24 ?_
    have hacc : ¬ (isT tn t ∧ isN 1 (tsum (T (kN t)).2.2) n) := (fun z => p z.1)
    exact V.lret (sc, I, J) rfl (by simp only [if_neg hacc]) (by simp only [if_neg hacc]; exact hm) rfl (by decide) (by decide) dX8_loan_27
  · have p := ite1.mp c_1
    have hk := p.k.2
    have hsl : slotR I J (kN t) (T (kN t)) := by have := m11 (kN t) (by omega); rw [show 8 * 0 + kN t = kN t by omega] at this; exact this
    have hi := v14 (kN t) (by omega)
    have hR := v8 (kN t)
    have hok := hi.okS (v8 (kN t)) (by omega) (by omega)
    have hts := hok.1.2.1
    have hl40 := hi.1
    refine V.iload_n dX8_loan_8 rfl rfl ?_
    refine V.iconst (v := nI (1)) dX8_loan_9 rfl ?_
    refine V.icmp_lt (tgt := 24) dX8_loan_10 (by decide) (fun c_2 => ?_) (fun c_2 => ?_)
    · have hn1 := (iltI n (by omega)).mp c_2
      refine V.ldc2 (v := -1) kK_X8_226 dX8_loan_24 ?_
      have hacc : ¬ (isT tn t ∧ isN 1 (tsum (T (kN t)).2.2) n) := (fun z => by have := z.2.1; omega)
      exact V.lret (sc, I, J) rfl (by simp only [if_neg hacc]) (by simp only [if_neg hacc]; exact hm) rfl (by decide) (by decide) dX8_loan_27
    · have hn1 : ¬ n.toInt < ((1 : Nat) : Int) := fun z => c_2 ((iltI n (k := 1) (by omega)).mpr z)
      refine V.iload_n dX8_loan_13 rfl rfl ?_
      refine V.i2l dX8_loan_14 rfl ?_
      refine V.to (lv' := [(0, .ref (o)), (1, .int (nI (kN t))), (2, .int (n))]) (st := [.long ((n).toInt64)]) (by rw [← p.k.1]) rfl rfl ?_
      refine V.aload_n dX8_loan_15 rfl rfl ?_
      refine V.iload_n dX8_loan_16 rfl rfl ?_
      refine V.callV0 (c_X8_trueIn _ G o ad sc I J (kN t) (T (kN t)).2.2 (by omega) hsl.2.2.2.2.2.2.2.2 hok.1) [.long ((n).toInt64)] 0 9 rfl rfl rfl rfl (goodV kM_X8_169 kI_X8_trueIn kV_X8_trueIn kN_X8 kC_X8_trueIn) ds_X8_trueIn (by decide) (Nat.le_of_ble_eq_true rfl) dX8_loan_17 (by decide) (fun u hu => ?_)
      refine V.to (lv' := [(0, .ref (o)), (1, .int (nI (kN t))), (2, .int (n))]) (st := [.long (lN (tsum (T (kN t)).2.2)), .long ((n).toInt64)]) (pc' := 20) rfl rfl rfl ?_
      refine V.lc_le (tgt := 28) dX8_loan_20 dX8_loan_21 (by decide) (fun c_3 => ?_) (fun c_3 => ?_)
      · have q : isN 1 (tsum (T (kN t)).2.2) n := ⟨by omega, (lleI n (by omega)).mp c_3⟩
        have hq := q.k.2
        refine V.to (lv' := [(0, .ref (o)), (1, .int (nI (kN t))), (2, .int (nI (kN n)))]) (st := []) (by rw [← q.k.1]) rfl rfl ?_
        have hx4 := v2 4 (by omega)
        have hmul : kN n * nx 4 ≤ 50000 * 9999 := Nat.mul_le_mul (by omega) hx4
        refine V.aload_n dX8_loan_28 rfl rfl ?_
        refine V.iload_n dX8_loan_29 rfl rfl ?_
        refine V.iload_n dX8_loan_30 rfl rfl ?_
        refine V.i2l (v := lN (kN n)) dX8_loan_31 (nI_l (by omega)) ?_
        refine V.callV0 (c_X8_takes _ G o ad sc I J (kN t) (kN n) (T (kN t)).2.2 (by omega) hsl.2.2.2.2.2.2.2.2 hl40 (fun q hq => Nat.le_trans (tsum_mem hq) hok.1.2.1) (by omega)) [] 0 9 rfl rfl rfl rfl (goodV kM_X8_188 kI_X8_takes kV_X8_takes kN_X8 kC_X8_takes) ds_X8_takes (by decide) (Nat.le_of_ble_eq_true rfl) dX8_loan_32 (by decide) (fun u hu => ?_)
        rw [hsl.2.2.2.2.2.2.2.1] at hu
        refine V.wd (ws' := mw G o ad sc u (up2 J 23 (kN t) (tk (kN n) (T (kN t)).2.2 (T (kN t)).2.1.2.2.2.2.2).2)) (by rw [hsl.2.2.2.2.2.2.2.1]) ?_
        refine V.to (lv' := [(0, .ref (o)), (1, .int (nI (kN t))), (2, .int (nI (kN n)))]) (st := []) (pc' := 35) rfl rfl rfl ?_
        refine V.aload_n dX8_loan_35 rfl rfl ?_
        refine Mg21 rfl dX8_loan_36 ?_
        refine V.iload_n dX8_loan_39 rfl rfl ?_
        refine V.dup2_11 dX8_loan_40 rfl rfl ?_
        refine Ml21 (kN t) rfl (by omega) dX8_loan_41 ?_
        refine V.el (y := lN ((T (kN t)).1.1)) hsl.1 ?_
        refine V.iload_n dX8_loan_42 rfl rfl ?_
        refine V.i2l (v := lN (kN n)) dX8_loan_43 (nI_l (by omega)) ?_
        refine V.ladd dX8_loan_44 ?_
        refine V.el (lN_add _ _) ?_
        refine Ms21 (kN t) rfl (by omega) dX8_loan_45 ?_
        refine V.aload_n dX8_loan_46 rfl rfl ?_
        refine Mg26 rfl dX8_loan_47 ?_
        refine V.iload_n dX8_loan_50 rfl rfl ?_
        refine V.dup2_11 dX8_loan_51 rfl rfl ?_
        refine Ml26 (kN t) rfl (by omega) dX8_loan_52 ?_
        refine V.el (y := lN ((T (kN t)).1.2)) hsl.2.1 ?_
        refine V.iload_n dX8_loan_53 rfl rfl ?_
        refine V.i2l (v := lN (kN n)) dX8_loan_54 (nI_l (by omega)) ?_
        refine V.aload_n dX8_loan_55 rfl rfl ?_
        refine Mg3 rfl dX8_loan_56 ?_
        refine V.iconst (v := nI (4)) dX8_loan_59 rfl ?_
        refine Ml3 (4) rfl (by omega) dX8_loan_60 ?_
        refine V.ei (y := nI (nx 4)) ((hu.2 3 4 (by simp [pS])).trans (m2 4 (by omega))) ?_
        refine V.i2l (v := lN (nx 4)) dX8_loan_61 (nI_l (by omega)) ?_
        refine V.lmul dX8_loan_62 ?_
        refine V.el (lN_mul _ _) ?_
        refine V.ldc2 (v := 99) kK_X8_192 dX8_loan_63 ?_
        refine V.el (y := lN 99) rfl ?_
        refine V.ladd dX8_loan_66 ?_
        refine V.el (lN_add _ _) ?_
        refine V.ldc2 (v := 100) kK_X8_194 dX8_loan_67 ?_
        refine V.el (y := lN 100) rfl ?_
        refine V.ldiv dX8_loan_70 (by decide) ?_
        refine V.el (y := lN (lndO (kN n) (nx 4))) (pk_lDiv (by omega) (by omega) (by omega)) ?_
        refine V.ladd dX8_loan_71 ?_
        refine V.el (lN_add _ _) ?_
        refine Ms26 (kN t) rfl (by omega) dX8_loan_72 ?_
        refine V.aload_n dX8_loan_73 rfl rfl ?_
        refine Mg26 rfl dX8_loan_74 ?_
        refine V.iload_n dX8_loan_77 rfl rfl ?_
        refine Ml26 (kN t) rfl (by omega) dX8_loan_78 ?_
        refine V.el (y := lN ((T (kN t)).1.2 + lndO (kN n) (nx 4))) (by rw [up2_s]) ?_
        have hacc : isT tn t ∧ isN 1 (tsum (T (kN t)).2.2) n := ⟨p, q⟩
        exact V.lret (sc, u, (up2 (up2 (up2 J 23 (kN t) (tk (kN n) (T (kN t)).2.2 (T (kN t)).2.1.2.2.2.2.2).2) 21 (kN t) (lN (((T (kN t)).1.1) + (kN n)))) 26 (kN t) (lN (((T (kN t)).1.2) + (lndO (kN n) (nx 4)))))) rfl (by simp only [if_pos hacc]) (by simp only [if_pos hacc]; exact mrep_slot hm hv hk hu.2 (((fr.up ⟨by omega, by omega, rfl⟩).tr (fr.up ⟨by omega, by omega, rfl⟩)).tr (fr.up ⟨by omega, by omega, rfl⟩)) (show slotR _ _ _ (lnd (kN n) (nx 4) (T (kN t))) from ⟨(by simp [up2, lnd]), (by simp [up2, lnd]), hsl.2.2.1, hsl.2.2.2.1, hsl.2.2.2.2.1, hsl.2.2.2.2.2.1, hsl.2.2.2.2.2.2.1, (by simp [up2, lnd]), hu.1⟩)) rfl (by decide) (by decide) dX8_loan_79
      · have q2 : ¬ n.toInt ≤ (tsum (T (kN t)).2.2 : Int) := fun z => c_3 ((lleI n (by omega)).mpr z)
        refine V.ldc2 (v := -1) kK_X8_226 dX8_loan_24 ?_
        have hacc : ¬ (isT tn t ∧ isN 1 (tsum (T (kN t)).2.2) n) := (fun z => by have := z.2.2; omega)
        exact V.lret (sc, I, J) rfl (by simp only [if_neg hacc]) (by simp only [if_neg hacc]; exact hm) rfl (by decide) (by decide) dX8_loan_27
set_option maxHeartbeats 4000000 in
set_option maxRecDepth 20000 in
theorem c_X8_steal (l : Launch) (G : GG) (o : Nat) (ad : Nat → Nat) (sc : Int32 × Int32 × Int32) (I : Nat → Nat → Int32) (J : Nat → Nat → Int64) (B : Nat) (tp : List Nat) (nx : Nat → Nat) (tn rn : Nat) (E R Hv : Nat → Nat) (mo co : Nat) (C : List Cr) (T : Nat → ST) (rd : Nat → Rd) (hm : mrep sc I J tp nx tn rn E R Hv mo co C T rd) (hv : sinv B tp nx tn rn E R Hv mo co C T rd) (hB : B ≤ 2 ^ 47) (t n : Int32) : Ct l G yX8_steal cX8_steal 6 (some .boolean) rm_X8_steal [.ref (o), .int (t), .int (n)] (mw G o ad sc I J) (fun u : (Int32 × Int32 × Int32) × (Nat → Nat → Int32) × (Nat → Nat → Int64) => mw G o ad u.1 u.2.1 u.2.2) (fun u : (Int32 × Int32 × Int32) × (Nat → Nat → Int32) × (Nat → Nat → Int64) => some (.int (if isT tn t ∧ isN 1 (tsum (T (kN t)).2.2) n then 1 else 0))) (fun u : (Int32 × Int32 × Int32) × (Nat → Nat → Int32) × (Nat → Nat → Int64) => mrep u.1 u.2.1 u.2.2 tp nx tn rn E R Hv mo co C (if isT tn t ∧ isN 1 (tsum (T (kN t)).2.2) n then upf T (kN t) (stl (kN n) (T (kN t))) else T) rd) := by
  refine Ct.of (by decide) (Nat.le_of_ble_eq_true rfl) (fun X A hX => ?_)
  subst hX
  refine V.to (lv' := [(0, .ref (o)), (1, .int (t)), (2, .int (n))]) (st := []) (pc' := 0) rfl rfl rfl ?_
  obtain ⟨m0, m1, m2, m3, m4, m5, m6, m7, m8, m9, m10, m11, m12, m13⟩ := id hm
  obtain ⟨⟨v0, v1⟩, ⟨v2, v3⟩, ⟨v4, v5⟩, ⟨v6, v7, v8, v9⟩, ⟨v10, v11⟩, ⟨v12, v13⟩, ⟨v14, v15⟩, v16, v17⟩ := id hv
  have loop : ∀ (d : Nat) (p : isT tn t) (q : isN 1 (tsum (T (kN t)).2.2) n) (D r1 : List Lt) (m : Nat) (I1 : Nat → Nat → Int32), r1.length < d → rowR I1 (kN t) (D ++ r1) → (D ++ r1).length ≤ 40 → m ≤ tsum r1 → tsum r1 ≤ 50000 → D ++ pl m r1 = pl (kN n) (T (kN t)).2.2 → fr (pS (kN t)) I I1 → V G X yX8_steal cX8_steal 6 (some .boolean) rm_X8_steal A (MZ G X rm_X8_steal A (fun u : (Int32 × Int32 × Int32) × (Nat → Nat → Int32) × (Nat → Nat → Int64) => mw G o ad u.1 u.2.1 u.2.2) (fun u : (Int32 × Int32 × Int32) × (Nat → Nat → Int32) × (Nat → Nat → Int64) => some (.int (if isT tn t ∧ isN 1 (tsum (T (kN t)).2.2) n then 1 else 0))) (fun u : (Int32 × Int32 × Int32) × (Nat → Nat → Int32) × (Nat → Nat → Int64) => mrep u.1 u.2.1 u.2.2 tp nx tn rn E R Hv mo co C (if isT tn t ∧ isN 1 (tsum (T (kN t)).2.2) n then upf T (kN t) (stl (kN n) (T (kN t))) else T) rd)) 0 0 (mw G o ad sc I1 J) [(4, .int (nI (40 * kN t + D.length))), (3, .int (nI (m))), (0, .ref (o)), (1, .int (nI (kN t))), (2, .int (nI (kN n)))] 34 [] := by
    intro d
    induction d with
    | zero => intro p q D r1 m I1 hd; exact absurd hd (Nat.not_lt_zero _)
    | succ d ih =>
      intro p q D r1 m I1 hd hr hlen hmt ht5 hpl hfr
      have hk := p.k.2
      have hsl : slotR I J (kN t) (T (kN t)) := by have := m11 (kN t) (by omega); rw [show 8 * 0 + kN t = kN t by omega] at this; exact this
      have hi := v14 (kN t) (by omega)
      have hR := v8 (kN t)
      have hok := hi.okS (v8 (kN t)) (by omega) (by omega)
      have hts := hok.1.2.1
      have hl40 := hi.1
      have hq := q.k.2
      refine V.iload_n dX8_steal_34 rfl rfl ?_
      refine V.if_le (tgt := 112) dX8_steal_35 (by decide) (fun c_1 => ?_) (fun c_1 => ?_)
      · have hm0 : m = 0 := by rcases Nat.eq_zero_or_pos m with z | z; exact z; exact absurd c_1 (nI_nle z (by omega))
        subst hm0
        rw [pl_0] at hpl
        refine V.aload_n dX8_steal_112 rfl rfl ?_
        refine Mg29 rfl dX8_steal_113 ?_
        refine V.iload_n dX8_steal_116 rfl rfl ?_
        refine V.dup2_11 dX8_steal_117 rfl rfl ?_
        refine Ml29 (kN t) rfl (by omega) dX8_steal_118 ?_
        refine V.el (y := (T (kN t)).2.1.2.2.2.2.1) hsl.2.2.2.2.2.2.1 ?_
        refine V.iload_n dX8_steal_119 rfl rfl ?_
        refine V.i2l (v := lN (kN n)) dX8_steal_120 (nI_l (by omega)) ?_
        refine V.ladd dX8_steal_121 ?_
        refine Ms29 (kN t) rfl (by omega) dX8_steal_122 ?_
        refine V.iconst (v := nI (1)) dX8_steal_123 rfl ?_
        have hacc : isT tn t ∧ isN 1 (tsum (T (kN t)).2.2) n := ⟨p, q⟩
        exact V.zret (sc, I1, (up2 J 29 (kN t) (((T (kN t)).2.1.2.2.2.2.1) + (lN (kN n))))) rfl rfl (by simp only [if_pos hacc]; rfl) (by simp only [if_pos hacc]; exact mrep_slot hm hv hk hfr (fr.up ⟨by omega, by omega, rfl⟩) (show slotR _ _ _ (stl (kN n) (T (kN t))) from ⟨hsl.1, hsl.2.1, hsl.2.2.1, hsl.2.2.2.1, hsl.2.2.2.2.1, hsl.2.2.2.2.2.1, (by simp [up2, stl]), hsl.2.2.2.2.2.2.2.1, (by show rowR I1 (kN t) (pl (kN n) (T (kN t)).2.2); rw [← hpl]; exact hr)⟩)) rfl (by decide) (by decide) dX8_steal_124
      · have h0ne : ¬ m = 0 := fun z => c_1 (by rw [z]; decide)
        obtain ⟨l, r2, rfl⟩ : ∃ l r2, r1 = l :: r2 := by
          cases r1 with
          | nil => simp only [tsum] at hmt; omega
          | cons q1 q2 => exact ⟨q1, q2, rfl⟩
        have hDl : D.length < 40 := by simp at hlen; omega
        have hlt5 : l.2.2.1 ≤ 50000 := by simp only [tsum] at ht5; omega
        refine V.aload_n dX8_steal_38 rfl rfl ?_
        refine Mg32 rfl dX8_steal_39 ?_
        refine V.iload dX8_steal_42 rfl ?_
        refine Ml32 (40 * kN t + D.length) rfl (by omega) dX8_steal_44 ?_
        refine V.ei (y := nI (l.2.2.1)) (hr.2 D.length l mid_at).2.2.1 ?_
        refine V.iload_n dX8_steal_45 rfl rfl ?_
        refine V.icmp_ge (tgt := 59) dX8_steal_46 (by decide) (fun c_2 => ?_) (fun c_2 => ?_)
        · have hge2 := (nI_leI (by omega) (by omega)).mp c_2
          refine V.iload_n dX8_steal_59 rfl rfl ?_
          refine V.istore (lv' := [(5, .int (nI (m))), (4, .int (nI (40 * kN t + D.length))), (3, .int (nI (m))), (0, .ref (o)), (1, .int (nI (kN t))), (2, .int (nI (kN n)))]) dX8_steal_60 (by decide) rfl ?_
          refine V.aload_n dX8_steal_62 rfl rfl ?_
          refine Mg32 rfl dX8_steal_63 ?_
          refine V.iload dX8_steal_66 rfl ?_
          refine V.dup2_11 dX8_steal_68 rfl rfl ?_
          refine Ml32 (40 * kN t + D.length) rfl (by omega) dX8_steal_69 ?_
          refine V.ei (y := nI (l.2.2.1)) (hr.2 D.length l mid_at).2.2.1 ?_
          refine V.iload dX8_steal_70 rfl ?_
          refine V.isub dX8_steal_72 ?_
          refine V.ei (y := nI (l.2.2.1 - (m))) (pk_sub (by omega)) ?_
          refine Ms32 (40 * kN t + D.length) rfl (by omega) dX8_steal_73 ?_
          refine V.iload_n dX8_steal_74 rfl rfl ?_
          refine V.iload dX8_steal_75 rfl ?_
          refine V.isub dX8_steal_77 ?_
          refine V.ei (y := nI (m - (m))) (pk_sub (by omega)) ?_
          refine V.istore_n (lv' := [(3, .int (nI (m - (m)))), (5, .int (nI (m))), (4, .int (nI (40 * kN t + D.length))), (0, .ref (o)), (1, .int (nI (kN t))), (2, .int (nI (kN n)))]) dX8_steal_78 rfl (by decide) rfl ?_
          refine V.aload_n dX8_steal_79 rfl rfl ?_
          refine Mg33 rfl dX8_steal_80 ?_
          refine V.iload dX8_steal_83 rfl ?_
          refine V.aload_n dX8_steal_85 rfl rfl ?_
          refine Mg33 rfl dX8_steal_86 ?_
          refine V.iload dX8_steal_89 rfl ?_
          refine Ml33 (40 * kN t + D.length) rfl (by omega) dX8_steal_91 ?_
          refine V.ei (y := bI l.2.2.2) ((hr.2 D.length l mid_at).2.2.2 (by omega)) ?_
          refine V.if_eq (tgt := 104) dX8_steal_92 (by decide) (fun c_3 => ?_) (fun c_3 => ?_)
          · have hsv : l.2.2.2 = false ∨ ¬ (m = 0) := Or.inl ((bI_eq _).mp c_3)
            refine V.iconst (v := nI (0)) dX8_steal_104 rfl ?_
            have hbz : 40 * kN t + D.length < 320 → vp_nar .boolean (nI (0)) = bI (l.2.2.2 && decide (m = 0)) := fun z => by rcases hsv with q1 | q1; rw [q1]; rfl; simp [q1]; rfl
            refine Ms33 (40 * kN t + D.length) rfl (by omega) dX8_steal_105 ?_
            refine V.iinc (k := 2) (v := nI (40 * kN t + D.length + 1)) (lv' := [(4, .int (nI (40 * kN t + D.length + 1))), (3, .int (nI (m - (m)))), (5, .int (nI (m))), (0, .ref (o)), (1, .int (nI (kN t))), (2, .int (nI (kN n)))]) dX8_steal_106 rfl (iinc1 _) (by decide) rfl ?_
            refine V.goto (tgt := 34) dX8_steal_109 (by decide) ?_
            refine V.to (lv' := [(4, .int (nI (40 * kN t + (D ++ [(l.1, l.2.1, l.2.2.1 - (m), (l.2.2.2 && decide (m = 0)))]).length))), (3, .int (nI (m - (m)))), (5, .int (nI (m))), (0, .ref (o)), (1, .int (nI (kN t))), (2, .int (nI (kN n)))]) (st := []) (pc' := 34) (by rw [show 40 * kN t + D.length + 1 = 40 * kN t + (D ++ [(l.1, l.2.1, l.2.2.1 - (m), (l.2.2.2 && decide (m = 0)))]).length by simp; omega]) rfl rfl ?_
            refine V.pick [0, 1, 3, 4, 5] (lv' := [(4, .int (nI (40 * kN t + (D ++ [(l.1, l.2.1, l.2.2.1 - (m), (l.2.2.2 && decide (m = 0)))]).length))), (3, .int (nI (m - (m)))), (0, .ref (o)), (1, .int (nI (kN t))), (2, .int (nI (kN n)))]) rfl ?_; exact ih p q (D ++ [(l.1, l.2.1, l.2.2.1 - (m), (l.2.2.2 && decide (m = 0)))]) r2 (m - (m)) _ (by simp at hd; omega) (by have := rowR_set2 (t := l.2.2.1 - (m)) (b := (l.2.2.2 && decide (m = 0))) (v := _) hr mid_at (fun z => hbz z); rw [set_mid] at this; simpa using this) (by simpa using hlen) (by simp only [tsum] at hmt ⊢; omega) (by simp only [tsum] at ht5; omega) (by rw [← hpl, pl_m h0ne hge2]; simp) (hfr.tr (set2_fr hDl ⟨by omega, by omega⟩ ⟨by omega, by omega⟩))
          · have hs0 : l.2.2.2 = true := by cases z : l.2.2.2; exact absurd (by rw [z]; rfl) c_3; rfl
            refine V.iload dX8_steal_95 rfl ?_
            refine V.if_ne (tgt := 104) dX8_steal_97 (by decide) (fun c_4 => ?_) (fun c_4 => ?_)
            · have hsv : l.2.2.2 = false ∨ ¬ (m = 0) := Or.inr (fun z => c_4 (by rw [z]; rfl))
              refine V.iconst (v := nI (0)) dX8_steal_104 rfl ?_
              have hbz : 40 * kN t + D.length < 320 → vp_nar .boolean (nI (0)) = bI (l.2.2.2 && decide (m = 0)) := fun z => by rcases hsv with q1 | q1; rw [q1]; rfl; simp [q1]; rfl
              refine Ms33 (40 * kN t + D.length) rfl (by omega) dX8_steal_105 ?_
              refine V.iinc (k := 2) (v := nI (40 * kN t + D.length + 1)) (lv' := [(4, .int (nI (40 * kN t + D.length + 1))), (3, .int (nI (m - (m)))), (5, .int (nI (m))), (0, .ref (o)), (1, .int (nI (kN t))), (2, .int (nI (kN n)))]) dX8_steal_106 rfl (iinc1 _) (by decide) rfl ?_
              refine V.goto (tgt := 34) dX8_steal_109 (by decide) ?_
              refine V.to (lv' := [(4, .int (nI (40 * kN t + (D ++ [(l.1, l.2.1, l.2.2.1 - (m), (l.2.2.2 && decide (m = 0)))]).length))), (3, .int (nI (m - (m)))), (5, .int (nI (m))), (0, .ref (o)), (1, .int (nI (kN t))), (2, .int (nI (kN n)))]) (st := []) (pc' := 34) (by rw [show 40 * kN t + D.length + 1 = 40 * kN t + (D ++ [(l.1, l.2.1, l.2.2.1 - (m), (l.2.2.2 && decide (m = 0)))]).length by simp; omega]) rfl rfl ?_
              refine V.pick [0, 1, 3, 4, 5] (lv' := [(4, .int (nI (40 * kN t + (D ++ [(l.1, l.2.1, l.2.2.1 - (m), (l.2.2.2 && decide (m = 0)))]).length))), (3, .int (nI (m - (m)))), (0, .ref (o)), (1, .int (nI (kN t))), (2, .int (nI (kN n)))]) rfl ?_; exact ih p q (D ++ [(l.1, l.2.1, l.2.2.1 - (m), (l.2.2.2 && decide (m = 0)))]) r2 (m - (m)) _ (by simp at hd; omega) (by have := rowR_set2 (t := l.2.2.1 - (m)) (b := (l.2.2.2 && decide (m = 0))) (v := _) hr mid_at (fun z => hbz z); rw [set_mid] at this; simpa using this) (by simpa using hlen) (by simp only [tsum] at hmt ⊢; omega) (by simp only [tsum] at ht5; omega) (by rw [← hpl, pl_m h0ne hge2]; simp) (hfr.tr (set2_fr hDl ⟨by omega, by omega⟩ ⟨by omega, by omega⟩))
            · have hv0 : m = 0 := (nI_eq (b := 0) (by omega) (by omega)).mp c_4
              refine V.iconst (v := nI (1)) dX8_steal_100 rfl ?_
              refine V.goto (tgt := 105) dX8_steal_101 (by decide) ?_
              have hbz : 40 * kN t + D.length < 320 → vp_nar .boolean (nI (1)) = bI (l.2.2.2 && decide (m = 0)) := fun z => by rw [hs0, hv0]; rfl
              refine Ms33 (40 * kN t + D.length) rfl (by omega) dX8_steal_105 ?_
              refine V.iinc (k := 2) (v := nI (40 * kN t + D.length + 1)) (lv' := [(4, .int (nI (40 * kN t + D.length + 1))), (3, .int (nI (m - (m)))), (5, .int (nI (m))), (0, .ref (o)), (1, .int (nI (kN t))), (2, .int (nI (kN n)))]) dX8_steal_106 rfl (iinc1 _) (by decide) rfl ?_
              refine V.goto (tgt := 34) dX8_steal_109 (by decide) ?_
              refine V.to (lv' := [(4, .int (nI (40 * kN t + (D ++ [(l.1, l.2.1, l.2.2.1 - (m), (l.2.2.2 && decide (m = 0)))]).length))), (3, .int (nI (m - (m)))), (5, .int (nI (m))), (0, .ref (o)), (1, .int (nI (kN t))), (2, .int (nI (kN n)))]) (st := []) (pc' := 34) (by rw [show 40 * kN t + D.length + 1 = 40 * kN t + (D ++ [(l.1, l.2.1, l.2.2.1 - (m), (l.2.2.2 && decide (m = 0)))]).length by simp; omega]) rfl rfl ?_
              refine V.pick [0, 1, 3, 4, 5] (lv' := [(4, .int (nI (40 * kN t + (D ++ [(l.1, l.2.1, l.2.2.1 - (m), (l.2.2.2 && decide (m = 0)))]).length))), (3, .int (nI (m - (m)))), (0, .ref (o)), (1, .int (nI (kN t))), (2, .int (nI (kN n)))]) rfl ?_; exact ih p q (D ++ [(l.1, l.2.1, l.2.2.1 - (m), (l.2.2.2 && decide (m = 0)))]) r2 (m - (m)) _ (by simp at hd; omega) (by have := rowR_set2 (t := l.2.2.1 - (m)) (b := (l.2.2.2 && decide (m = 0))) (v := _) hr mid_at (fun z => hbz z); rw [set_mid] at this; simpa using this) (by simpa using hlen) (by simp only [tsum] at hmt ⊢; omega) (by simp only [tsum] at ht5; omega) (by rw [← hpl, pl_m h0ne hge2]; simp) (hfr.tr (set2_fr hDl ⟨by omega, by omega⟩ ⟨by omega, by omega⟩))
        · have hge : l.2.2.1 < m := by
            rcases Nat.lt_or_ge l.2.2.1 m with z | z
            · exact z
            · exact absurd (nI_le z (by omega)) c_2
          refine V.aload_n dX8_steal_49 rfl rfl ?_
          refine Mg32 rfl dX8_steal_50 ?_
          refine V.iload dX8_steal_53 rfl ?_
          refine Ml32 (40 * kN t + D.length) rfl (by omega) dX8_steal_55 ?_
          refine V.ei (y := nI (l.2.2.1)) (hr.2 D.length l mid_at).2.2.1 ?_
          refine V.goto (tgt := 60) dX8_steal_56 (by decide) ?_
          refine V.istore (lv' := [(5, .int (nI (l.2.2.1))), (4, .int (nI (40 * kN t + D.length))), (3, .int (nI (m))), (0, .ref (o)), (1, .int (nI (kN t))), (2, .int (nI (kN n)))]) dX8_steal_60 (by decide) rfl ?_
          refine V.aload_n dX8_steal_62 rfl rfl ?_
          refine Mg32 rfl dX8_steal_63 ?_
          refine V.iload dX8_steal_66 rfl ?_
          refine V.dup2_11 dX8_steal_68 rfl rfl ?_
          refine Ml32 (40 * kN t + D.length) rfl (by omega) dX8_steal_69 ?_
          refine V.ei (y := nI (l.2.2.1)) (hr.2 D.length l mid_at).2.2.1 ?_
          refine V.iload dX8_steal_70 rfl ?_
          refine V.isub dX8_steal_72 ?_
          refine V.ei (y := nI (l.2.2.1 - (l.2.2.1))) (pk_sub (by omega)) ?_
          refine Ms32 (40 * kN t + D.length) rfl (by omega) dX8_steal_73 ?_
          refine V.iload_n dX8_steal_74 rfl rfl ?_
          refine V.iload dX8_steal_75 rfl ?_
          refine V.isub dX8_steal_77 ?_
          refine V.ei (y := nI (m - (l.2.2.1))) (pk_sub (by omega)) ?_
          refine V.istore_n (lv' := [(3, .int (nI (m - (l.2.2.1)))), (5, .int (nI (l.2.2.1))), (4, .int (nI (40 * kN t + D.length))), (0, .ref (o)), (1, .int (nI (kN t))), (2, .int (nI (kN n)))]) dX8_steal_78 rfl (by decide) rfl ?_
          refine V.aload_n dX8_steal_79 rfl rfl ?_
          refine Mg33 rfl dX8_steal_80 ?_
          refine V.iload dX8_steal_83 rfl ?_
          refine V.aload_n dX8_steal_85 rfl rfl ?_
          refine Mg33 rfl dX8_steal_86 ?_
          refine V.iload dX8_steal_89 rfl ?_
          refine Ml33 (40 * kN t + D.length) rfl (by omega) dX8_steal_91 ?_
          refine V.ei (y := bI l.2.2.2) ((hr.2 D.length l mid_at).2.2.2 (by omega)) ?_
          refine V.if_eq (tgt := 104) dX8_steal_92 (by decide) (fun c_5 => ?_) (fun c_5 => ?_)
          · have hsv : l.2.2.2 = false ∨ ¬ (l.2.2.1 = 0) := Or.inl ((bI_eq _).mp c_5)
            refine V.iconst (v := nI (0)) dX8_steal_104 rfl ?_
            have hbz : 40 * kN t + D.length < 320 → vp_nar .boolean (nI (0)) = bI (l.2.2.2 && decide (l.2.2.1 = 0)) := fun z => by rcases hsv with q1 | q1; rw [q1]; rfl; simp [q1]; rfl
            refine Ms33 (40 * kN t + D.length) rfl (by omega) dX8_steal_105 ?_
            refine V.iinc (k := 2) (v := nI (40 * kN t + D.length + 1)) (lv' := [(4, .int (nI (40 * kN t + D.length + 1))), (3, .int (nI (m - (l.2.2.1)))), (5, .int (nI (l.2.2.1))), (0, .ref (o)), (1, .int (nI (kN t))), (2, .int (nI (kN n)))]) dX8_steal_106 rfl (iinc1 _) (by decide) rfl ?_
            refine V.goto (tgt := 34) dX8_steal_109 (by decide) ?_
            refine V.to (lv' := [(4, .int (nI (40 * kN t + (D ++ [(l.1, l.2.1, l.2.2.1 - (l.2.2.1), (l.2.2.2 && decide (l.2.2.1 = 0)))]).length))), (3, .int (nI (m - (l.2.2.1)))), (5, .int (nI (l.2.2.1))), (0, .ref (o)), (1, .int (nI (kN t))), (2, .int (nI (kN n)))]) (st := []) (pc' := 34) (by rw [show 40 * kN t + D.length + 1 = 40 * kN t + (D ++ [(l.1, l.2.1, l.2.2.1 - (l.2.2.1), (l.2.2.2 && decide (l.2.2.1 = 0)))]).length by simp; omega]) rfl rfl ?_
            refine V.pick [0, 1, 3, 4, 5] (lv' := [(4, .int (nI (40 * kN t + (D ++ [(l.1, l.2.1, l.2.2.1 - (l.2.2.1), (l.2.2.2 && decide (l.2.2.1 = 0)))]).length))), (3, .int (nI (m - (l.2.2.1)))), (0, .ref (o)), (1, .int (nI (kN t))), (2, .int (nI (kN n)))]) rfl ?_; exact ih p q (D ++ [(l.1, l.2.1, l.2.2.1 - (l.2.2.1), (l.2.2.2 && decide (l.2.2.1 = 0)))]) r2 (m - (l.2.2.1)) _ (by simp at hd; omega) (by have := rowR_set2 (t := l.2.2.1 - (l.2.2.1)) (b := (l.2.2.2 && decide (l.2.2.1 = 0))) (v := _) hr mid_at (fun z => hbz z); rw [set_mid] at this; simpa using this) (by simpa using hlen) (by simp only [tsum] at hmt ⊢; omega) (by simp only [tsum] at ht5; omega) (by rw [← hpl, pl_t h0ne hge]; simp) (hfr.tr (set2_fr hDl ⟨by omega, by omega⟩ ⟨by omega, by omega⟩))
          · have hs0 : l.2.2.2 = true := by cases z : l.2.2.2; exact absurd (by rw [z]; rfl) c_5; rfl
            refine V.iload dX8_steal_95 rfl ?_
            refine V.if_ne (tgt := 104) dX8_steal_97 (by decide) (fun c_6 => ?_) (fun c_6 => ?_)
            · have hsv : l.2.2.2 = false ∨ ¬ (l.2.2.1 = 0) := Or.inr (fun z => c_6 (by rw [z]; rfl))
              refine V.iconst (v := nI (0)) dX8_steal_104 rfl ?_
              have hbz : 40 * kN t + D.length < 320 → vp_nar .boolean (nI (0)) = bI (l.2.2.2 && decide (l.2.2.1 = 0)) := fun z => by rcases hsv with q1 | q1; rw [q1]; rfl; simp [q1]; rfl
              refine Ms33 (40 * kN t + D.length) rfl (by omega) dX8_steal_105 ?_
              refine V.iinc (k := 2) (v := nI (40 * kN t + D.length + 1)) (lv' := [(4, .int (nI (40 * kN t + D.length + 1))), (3, .int (nI (m - (l.2.2.1)))), (5, .int (nI (l.2.2.1))), (0, .ref (o)), (1, .int (nI (kN t))), (2, .int (nI (kN n)))]) dX8_steal_106 rfl (iinc1 _) (by decide) rfl ?_
              refine V.goto (tgt := 34) dX8_steal_109 (by decide) ?_
              refine V.to (lv' := [(4, .int (nI (40 * kN t + (D ++ [(l.1, l.2.1, l.2.2.1 - (l.2.2.1), (l.2.2.2 && decide (l.2.2.1 = 0)))]).length))), (3, .int (nI (m - (l.2.2.1)))), (5, .int (nI (l.2.2.1))), (0, .ref (o)), (1, .int (nI (kN t))), (2, .int (nI (kN n)))]) (st := []) (pc' := 34) (by rw [show 40 * kN t + D.length + 1 = 40 * kN t + (D ++ [(l.1, l.2.1, l.2.2.1 - (l.2.2.1), (l.2.2.2 && decide (l.2.2.1 = 0)))]).length by simp; omega]) rfl rfl ?_
              refine V.pick [0, 1, 3, 4, 5] (lv' := [(4, .int (nI (40 * kN t + (D ++ [(l.1, l.2.1, l.2.2.1 - (l.2.2.1), (l.2.2.2 && decide (l.2.2.1 = 0)))]).length))), (3, .int (nI (m - (l.2.2.1)))), (0, .ref (o)), (1, .int (nI (kN t))), (2, .int (nI (kN n)))]) rfl ?_; exact ih p q (D ++ [(l.1, l.2.1, l.2.2.1 - (l.2.2.1), (l.2.2.2 && decide (l.2.2.1 = 0)))]) r2 (m - (l.2.2.1)) _ (by simp at hd; omega) (by have := rowR_set2 (t := l.2.2.1 - (l.2.2.1)) (b := (l.2.2.2 && decide (l.2.2.1 = 0))) (v := _) hr mid_at (fun z => hbz z); rw [set_mid] at this; simpa using this) (by simpa using hlen) (by simp only [tsum] at hmt ⊢; omega) (by simp only [tsum] at ht5; omega) (by rw [← hpl, pl_t h0ne hge]; simp) (hfr.tr (set2_fr hDl ⟨by omega, by omega⟩ ⟨by omega, by omega⟩))
            · have hv0 : l.2.2.1 = 0 := (nI_eq (b := 0) (by omega) (by omega)).mp c_6
              refine V.iconst (v := nI (1)) dX8_steal_100 rfl ?_
              refine V.goto (tgt := 105) dX8_steal_101 (by decide) ?_
              have hbz : 40 * kN t + D.length < 320 → vp_nar .boolean (nI (1)) = bI (l.2.2.2 && decide (l.2.2.1 = 0)) := fun z => by rw [hs0, hv0]; rfl
              refine Ms33 (40 * kN t + D.length) rfl (by omega) dX8_steal_105 ?_
              refine V.iinc (k := 2) (v := nI (40 * kN t + D.length + 1)) (lv' := [(4, .int (nI (40 * kN t + D.length + 1))), (3, .int (nI (m - (l.2.2.1)))), (5, .int (nI (l.2.2.1))), (0, .ref (o)), (1, .int (nI (kN t))), (2, .int (nI (kN n)))]) dX8_steal_106 rfl (iinc1 _) (by decide) rfl ?_
              refine V.goto (tgt := 34) dX8_steal_109 (by decide) ?_
              refine V.to (lv' := [(4, .int (nI (40 * kN t + (D ++ [(l.1, l.2.1, l.2.2.1 - (l.2.2.1), (l.2.2.2 && decide (l.2.2.1 = 0)))]).length))), (3, .int (nI (m - (l.2.2.1)))), (5, .int (nI (l.2.2.1))), (0, .ref (o)), (1, .int (nI (kN t))), (2, .int (nI (kN n)))]) (st := []) (pc' := 34) (by rw [show 40 * kN t + D.length + 1 = 40 * kN t + (D ++ [(l.1, l.2.1, l.2.2.1 - (l.2.2.1), (l.2.2.2 && decide (l.2.2.1 = 0)))]).length by simp; omega]) rfl rfl ?_
              refine V.pick [0, 1, 3, 4, 5] (lv' := [(4, .int (nI (40 * kN t + (D ++ [(l.1, l.2.1, l.2.2.1 - (l.2.2.1), (l.2.2.2 && decide (l.2.2.1 = 0)))]).length))), (3, .int (nI (m - (l.2.2.1)))), (0, .ref (o)), (1, .int (nI (kN t))), (2, .int (nI (kN n)))]) rfl ?_; exact ih p q (D ++ [(l.1, l.2.1, l.2.2.1 - (l.2.2.1), (l.2.2.2 && decide (l.2.2.1 = 0)))]) r2 (m - (l.2.2.1)) _ (by simp at hd; omega) (by have := rowR_set2 (t := l.2.2.1 - (l.2.2.1)) (b := (l.2.2.2 && decide (l.2.2.1 = 0))) (v := _) hr mid_at (fun z => hbz z); rw [set_mid] at this; simpa using this) (by simpa using hlen) (by simp only [tsum] at hmt ⊢; omega) (by simp only [tsum] at ht5; omega) (by rw [← hpl, pl_t h0ne hge]; simp) (hfr.tr (set2_fr hDl ⟨by omega, by omega⟩ ⟨by omega, by omega⟩))
  refine V.aload_n dX8_steal_0 rfl rfl ?_
  refine V.iload_n dX8_steal_1 rfl rfl ?_
  refine V.callV0 (c_X8_isTown _ G o ad sc I J tn t m3 v4) [] 0 9 rfl rfl rfl rfl (goodV kM_X8_155 kI_X8_isTown kV_X8_isTown kN_X8 kC_X8_isTown) ds_X8_isTown (by decide) (Nat.le_of_ble_eq_true rfl) dX8_steal_2 (by decide) (fun u hu => ?_)
  refine V.to (lv' := [(0, .ref (o)), (1, .int (t)), (2, .int (n))]) (st := [.int (if isT tn t then 1 else 0)]) (pc' := 5) rfl rfl rfl ?_
  refine V.if_eq (tgt := 24) dX8_steal_5 (by decide) (fun c_1 => ?_) (fun c_1 => ?_)
  · have p := ite0.mp c_1
    refine V.iconst (v := nI (0)) dX8_steal_24 rfl ?_
    have hacc : ¬ (isT tn t ∧ isN 1 (tsum (T (kN t)).2.2) n) := (fun z => p z.1)
    exact V.zret (sc, I, J) rfl rfl (by simp only [if_neg hacc]; rfl) (by simp only [if_neg hacc]; exact hm) rfl (by decide) (by decide) dX8_steal_25
  · have p := ite1.mp c_1
    have hk := p.k.2
    have hsl : slotR I J (kN t) (T (kN t)) := by have := m11 (kN t) (by omega); rw [show 8 * 0 + kN t = kN t by omega] at this; exact this
    have hi := v14 (kN t) (by omega)
    have hR := v8 (kN t)
    have hok := hi.okS (v8 (kN t)) (by omega) (by omega)
    have hts := hok.1.2.1
    have hl40 := hi.1
    refine V.iload_n dX8_steal_8 rfl rfl ?_
    refine V.iconst (v := nI (1)) dX8_steal_9 rfl ?_
    refine V.icmp_lt (tgt := 24) dX8_steal_10 (by decide) (fun c_2 => ?_) (fun c_2 => ?_)
    · have hn1 := (iltI n (by omega)).mp c_2
      refine V.iconst (v := nI (0)) dX8_steal_24 rfl ?_
      have hacc : ¬ (isT tn t ∧ isN 1 (tsum (T (kN t)).2.2) n) := (fun z => by have := z.2.1; omega)
      exact V.zret (sc, I, J) rfl rfl (by simp only [if_neg hacc]; rfl) (by simp only [if_neg hacc]; exact hm) rfl (by decide) (by decide) dX8_steal_25
    · have hn1 : ¬ n.toInt < ((1 : Nat) : Int) := fun z => c_2 ((iltI n (k := 1) (by omega)).mpr z)
      refine V.iload_n dX8_steal_13 rfl rfl ?_
      refine V.i2l dX8_steal_14 rfl ?_
      refine V.to (lv' := [(0, .ref (o)), (1, .int (nI (kN t))), (2, .int (n))]) (st := [.long ((n).toInt64)]) (by rw [← p.k.1]) rfl rfl ?_
      refine V.aload_n dX8_steal_15 rfl rfl ?_
      refine V.iload_n dX8_steal_16 rfl rfl ?_
      refine V.callV0 (c_X8_trueIn _ G o ad sc I J (kN t) (T (kN t)).2.2 (by omega) hsl.2.2.2.2.2.2.2.2 hok.1) [.long ((n).toInt64)] 0 9 rfl rfl rfl rfl (goodV kM_X8_169 kI_X8_trueIn kV_X8_trueIn kN_X8 kC_X8_trueIn) ds_X8_trueIn (by decide) (Nat.le_of_ble_eq_true rfl) dX8_steal_17 (by decide) (fun u hu => ?_)
      refine V.to (lv' := [(0, .ref (o)), (1, .int (nI (kN t))), (2, .int (n))]) (st := [.long (lN (tsum (T (kN t)).2.2)), .long ((n).toInt64)]) (pc' := 20) rfl rfl rfl ?_
      refine V.lc_le (tgt := 26) dX8_steal_20 dX8_steal_21 (by decide) (fun c_3 => ?_) (fun c_3 => ?_)
      · have q : isN 1 (tsum (T (kN t)).2.2) n := ⟨by omega, (lleI n (by omega)).mp c_3⟩
        have hq := q.k.2
        refine V.to (lv' := [(0, .ref (o)), (1, .int (nI (kN t))), (2, .int (nI (kN n)))]) (st := []) (by rw [← q.k.1]) rfl rfl ?_
        refine V.iload_n dX8_steal_26 rfl rfl ?_
        refine V.istore_n (lv' := [(3, .int (nI (kN n))), (0, .ref (o)), (1, .int (nI (kN t))), (2, .int (nI (kN n)))]) dX8_steal_27 rfl (by decide) rfl ?_
        refine V.bipush (v := nI (40)) dX8_steal_28 rfl ?_
        refine V.iload_n dX8_steal_30 rfl rfl ?_
        refine V.imul dX8_steal_31 ?_
        refine V.ei (pk_mul _ _) ?_
        refine V.istore (lv' := [(4, .int (nI ((40) * (kN t)))), (3, .int (nI (kN n))), (0, .ref (o)), (1, .int (nI (kN t))), (2, .int (nI (kN n)))]) dX8_steal_32 (by decide) rfl ?_
        refine V.pick [0, 1, 2, 3, 4] (lv' := [(4, .int (nI ((40) * (kN t)))), (3, .int (nI (kN n))), (0, .ref (o)), (1, .int (nI (kN t))), (2, .int (nI (kN n)))]) rfl ?_; exact loop ((T (kN t)).2.2.length + 1) p q [] (T (kN t)).2.2 (kN n) I (by omega) hsl.2.2.2.2.2.2.2.2 hl40 (by omega) hts rfl fr.rf
      · have q2 : ¬ n.toInt ≤ (tsum (T (kN t)).2.2 : Int) := fun z => c_3 ((lleI n (by omega)).mpr z)
        refine V.iconst (v := nI (0)) dX8_steal_24 rfl ?_
        have hacc : ¬ (isT tn t ∧ isN 1 (tsum (T (kN t)).2.2) n) := (fun z => by have := z.2.2; omega)
        exact V.zret (sc, I, J) rfl rfl (by simp only [if_neg hacc]; rfl) (by simp only [if_neg hacc]; exact hm) rfl (by decide) (by decide) dX8_steal_25
set_option maxHeartbeats 4000000 in
set_option maxRecDepth 20000 in
theorem c_X8_measure (l : Launch) (G : GG) (o : Nat) (ad : Nat → Nat) (sc : Int32 × Int32 × Int32) (I : Nat → Nat → Int32) (J : Nat → Nat → Int64) (B : Nat) (tp : List Nat) (nx : Nat → Nat) (tn rn : Nat) (E R Hv : Nat → Nat) (mo co : Nat) (C : List Cr) (T : Nat → ST) (rd : Nat → Rd) (hm : mrep sc I J tp nx tn rn E R Hv mo co C T rd) (hv : sinv B tp nx tn rn E R Hv mo co C T rd) (hB : B ≤ 2 ^ 47) (t i : Int32) : Ct l G yX8_measure cX8_measure 5 (some .int) rm_X8_measure [.ref (o), .int (t), .int (i)] (mw G o ad sc I J) (fun u : (Int32 × Int32 × Int32) × (Nat → Nat → Int32) × (Nat → Nat → Int64) => mw G o ad u.1 u.2.1 u.2.2) (fun u : (Int32 × Int32 × Int32) × (Nat → Nat → Int32) × (Nat → Nat → Int64) => some (.int (if isT tn t ∧ isT (T (kN t)).2.2.length i then ((T (kN t)).2.2.getD (kN i) lt0).2.1 - nI ((T (kN t)).2.2.getD (kN i) lt0).2.2.1 else -1))) (fun u : (Int32 × Int32 × Int32) × (Nat → Nat → Int32) × (Nat → Nat → Int64) => mrep u.1 u.2.1 u.2.2 tp nx tn rn E R Hv mo co C (if isT tn t ∧ isT (T (kN t)).2.2.length i then upf T (kN t) (aud (kN i) (T (kN t))) else T) rd) := by
  refine Ct.of (by decide) (Nat.le_of_ble_eq_true rfl) (fun X A hX => ?_)
  subst hX
  refine V.to (lv' := [(0, .ref (o)), (1, .int (t)), (2, .int (i))]) (st := []) (pc' := 0) rfl rfl rfl ?_
  obtain ⟨m0, m1, m2, m3, m4, m5, m6, m7, m8, m9, m10, m11, m12, m13⟩ := id hm
  obtain ⟨⟨v0, v1⟩, ⟨v2, v3⟩, ⟨v4, v5⟩, ⟨v6, v7, v8, v9⟩, ⟨v10, v11⟩, ⟨v12, v13⟩, ⟨v14, v15⟩, v16, v17⟩ := id hv
  refine V.aload_n dX8_measure_0 rfl rfl ?_
  refine V.iload_n dX8_measure_1 rfl rfl ?_
  refine V.callV0 (c_X8_isTown _ G o ad sc I J tn t m3 v4) [] 0 9 rfl rfl rfl rfl (goodV kM_X8_155 kI_X8_isTown kV_X8_isTown kN_X8 kC_X8_isTown) ds_X8_isTown (by decide) (Nat.le_of_ble_eq_true rfl) dX8_measure_2 (by decide) (fun u hu => ?_)
  refine V.to (lv' := [(0, .ref (o)), (1, .int (t)), (2, .int (i))]) (st := [.int (if isT tn t then 1 else 0)]) (pc' := 5) rfl rfl rfl ?_
  refine V.if_eq (tgt := 26) dX8_measure_5 (by decide) (fun c_1 => ?_) (fun c_1 => ?_)
  · have p := ite0.mp c_1
    refine V.iconst (v := -1) dX8_measure_26 (by decide) ?_
    have hacc : ¬ (isT tn t ∧ isT (T (kN t)).2.2.length i) := (fun z => p z.1)
    exact V.iret (sc, I, J) rfl (by simp only [if_neg hacc]) (by simp only [if_neg hacc]; exact hm) rfl (by decide) (by decide) dX8_measure_27
  · have p := ite1.mp c_1
    have hk := p.k.2
    have hsl : slotR I J (kN t) (T (kN t)) := by have := m11 (kN t) (by omega); rw [show 8 * 0 + kN t = kN t by omega] at this; exact this
    have hi := v14 (kN t) (by omega)
    have hR := v8 (kN t)
    have hok := hi.okS (v8 (kN t)) (by omega) (by omega)
    have hts := hok.1.2.1
    have hl40 := hi.1
    refine V.iload_n dX8_measure_8 rfl rfl ?_
    refine V.i2l dX8_measure_9 rfl ?_
    refine V.lconst (v := lN 0) dX8_measure_10 rfl ?_
    refine V.aload_n dX8_measure_11 rfl rfl ?_
    refine Mg22 rfl dX8_measure_12 ?_
    refine V.iload_n dX8_measure_15 rfl rfl ?_
    refine Ml22 (kN t) p.k.1 (by have := p.k.2; omega) dX8_measure_16 ?_
    refine V.ei (y := nI ((T (kN t)).2.2.length)) hsl.2.2.2.2.2.2.2.2.1 ?_
    refine V.iconst (v := nI (1)) dX8_measure_17 rfl ?_
    refine V.isub dX8_measure_18 ?_
    refine V.i2l dX8_measure_19 rfl ?_
    refine V.callSE (c_X8_lies _ G ((i).toInt64) (lN (0)) (((nI ((T (kN t)).2.2.length)) - (nI (1))).toInt64)) [] rfl (goodS kM_X8_120 kS_X8_lies kN_X8 kC_X8_lies) ds_X8_lies (by decide) (Nat.le_of_ble_eq_true rfl) dX8_measure_20 (by decide) (fun u hu => ?_)
    refine V.to (lv' := [(0, .ref (o)), (1, .int (t)), (2, .int (i))]) (st := [.int (if lN (0) ≤ (i).toInt64 ∧ (i).toInt64 ≤ ((nI ((T (kN t)).2.2.length)) - (nI (1))).toInt64 then 1 else 0)]) (pc' := 23) rfl rfl rfl ?_
    refine V.ei (y := if isT (T (kN t)).2.2.length i then 1 else 0) (liesT i (by omega)) ?_
    refine V.if_ne (tgt := 28) dX8_measure_23 (by decide) (fun c_2 => ?_) (fun c_2 => ?_)
    · have q := ite1.mp c_2
      refine V.to (lv' := [(0, .ref (o)), (1, .int (nI (kN t))), (2, .int (i))]) (st := []) (by rw [← p.k.1]) rfl rfl ?_
      refine V.to (lv' := [(0, .ref (o)), (1, .int (nI (kN t))), (2, .int (nI (kN i)))]) (st := []) (by rw [← q.k.1]) rfl rfl ?_
      obtain ⟨l, hl⟩ := get_lt q.k.2
      have hq := q.k.2
      have he := hsl.2.2.2.2.2.2.2.2.2 (kN i) l hl
      have hget : ((T (kN t)).2.2.getD (kN i) lt0) = l := by rw [List.getD_eq_getElem?_getD, hl]; rfl
      have htl := tsum_mem (List.mem_of_getElem? hl)
      refine V.bipush (v := nI (40)) dX8_measure_28 rfl ?_
      refine V.iload_n dX8_measure_30 rfl rfl ?_
      refine V.imul dX8_measure_31 ?_
      refine V.ei (pk_mul _ _) ?_
      refine V.iload_n dX8_measure_32 rfl rfl ?_
      refine V.iadd dX8_measure_33 ?_
      refine V.ei (nI_add _ _) ?_
      refine V.istore_n (lv' := [(3, .int (nI (((40) * (kN t)) + (kN i)))), (0, .ref (o)), (1, .int (nI (kN t))), (2, .int (nI (kN i)))]) dX8_measure_34 rfl (by decide) rfl ?_
      refine V.aload_n dX8_measure_35 rfl rfl ?_
      refine Mg31 rfl dX8_measure_36 ?_
      refine V.iload_n dX8_measure_39 rfl rfl ?_
      refine Ml31 (((40) * (kN t)) + (kN i)) rfl (by omega) dX8_measure_40 ?_
      refine V.ei (y := l.2.1) he.2.1 ?_
      refine V.aload_n dX8_measure_41 rfl rfl ?_
      refine Mg32 rfl dX8_measure_42 ?_
      refine V.iload_n dX8_measure_45 rfl rfl ?_
      refine Ml32 (((40) * (kN t)) + (kN i)) rfl (by omega) dX8_measure_46 ?_
      refine V.ei (y := nI (l.2.2.1)) he.2.2.1 ?_
      refine V.isub dX8_measure_47 ?_
      refine V.istore (lv' := [(4, .int ((l.2.1) - (nI (l.2.2.1)))), (3, .int (nI (((40) * (kN t)) + (kN i)))), (0, .ref (o)), (1, .int (nI (kN t))), (2, .int (nI (kN i)))]) dX8_measure_48 (by decide) rfl ?_
      refine V.aload_n dX8_measure_50 rfl rfl ?_
      refine Mg32 rfl dX8_measure_51 ?_
      refine V.iload_n dX8_measure_54 rfl rfl ?_
      refine Ml32 (((40) * (kN t)) + (kN i)) rfl (by omega) dX8_measure_55 ?_
      refine V.ei (y := nI (l.2.2.1)) he.2.2.1 ?_
      refine V.if_ne (tgt := 68) dX8_measure_56 (by decide) (fun c_3 => ?_) (fun c_3 => ?_)
      · have hz : ¬ l.2.2.1 = 0 := fun z => c_3 (by rw [z]; rfl)
        refine V.aload_n dX8_measure_68 rfl rfl ?_
        refine Mg31 rfl dX8_measure_69 ?_
        refine V.iload_n dX8_measure_72 rfl rfl ?_
        refine V.aload_n dX8_measure_73 rfl rfl ?_
        refine Mg32 rfl dX8_measure_74 ?_
        refine V.iload_n dX8_measure_77 rfl rfl ?_
        refine Ml32 (((40) * (kN t)) + (kN i)) rfl (by omega) dX8_measure_78 ?_
        refine V.ei (y := nI (l.2.2.1)) he.2.2.1 ?_
        refine Ms31 (((40) * (kN t)) + (kN i)) rfl (by omega) dX8_measure_79 ?_
        refine V.aload_n dX8_measure_80 rfl rfl ?_
        refine Mg23 rfl dX8_measure_81 ?_
        refine V.iload_n dX8_measure_84 rfl rfl ?_
        refine V.dup2_11 dX8_measure_85 rfl rfl ?_
        refine Ml23 (kN t) rfl (by omega) dX8_measure_86 ?_
        refine V.el (y := (T (kN t)).2.1.2.2.2.2.2) hsl.2.2.2.2.2.2.2.1 ?_
        refine V.iload dX8_measure_87 rfl ?_
        refine V.i2l dX8_measure_89 rfl ?_
        refine V.ladd dX8_measure_90 ?_
        refine Ms23 (kN t) rfl (by omega) dX8_measure_91 ?_
        refine V.aload_n dX8_measure_92 rfl rfl ?_
        refine Mg33 rfl dX8_measure_93 ?_
        refine V.iload_n dX8_measure_96 rfl rfl ?_
        refine V.iconst (v := nI (1)) dX8_measure_97 rfl ?_
        refine Ms33 (((40) * (kN t)) + (kN i)) rfl (by omega) dX8_measure_98 ?_
        refine V.iload dX8_measure_99 rfl ?_
        have hacc : isT tn t ∧ isT (T (kN t)).2.2.length i := ⟨p, q⟩
        exact V.iret (sc, (up2 (up2 I 31 (((40) * (kN t)) + (kN i)) (nI (l.2.2.1))) 33 (((40) * (kN t)) + (kN i)) ((vp_nar .boolean (nI (1))))), (up2 J 23 (kN t) (((T (kN t)).2.1.2.2.2.2.2) + (((l.2.1) - (nI (l.2.2.1))).toInt64)))) rfl (by simp only [if_pos hacc]; rw [hget]) (by simp only [if_pos hacc]; exact mrep_slot hm hv hk (set2_fr (by omega) ⟨by omega, by omega⟩ ⟨by omega, by omega⟩) (fr.up ⟨by omega, by omega, rfl⟩) (by rw [show aud (kN i) (T (kN t)) = ((T (kN t)).1, ((T (kN t)).2.1.1, (T (kN t)).2.1.2.1, (T (kN t)).2.1.2.2.1, (T (kN t)).2.1.2.2.2.1, (T (kN t)).2.1.2.2.2.2.1, (T (kN t)).2.1.2.2.2.2.2 + (l.2.1 - nI l.2.2.1).toInt64), (T (kN t)).2.2.set (kN i) (l.1, nI l.2.2.1, l.2.2.1, true)) by rw [aud, hget, if_neg hz]]; exact ⟨hsl.1, hsl.2.1, hsl.2.2.1, hsl.2.2.2.1, hsl.2.2.2.2.1, hsl.2.2.2.2.2.1, hsl.2.2.2.2.2.2.1, (up2_s _ _ _ _), rowR_set3 hsl.2.2.2.2.2.2.2.2 hl (fun _ => by decide)⟩)) rfl (by decide) (by decide) dX8_measure_101
      · have hz : l.2.2.1 = 0 := (nI_eq (b := 0) (by omega) (by omega)).mp c_3
        refine V.aload_n dX8_measure_59 rfl rfl ?_
        refine V.iload_n dX8_measure_60 rfl rfl ?_
        refine V.iload_n dX8_measure_61 rfl rfl ?_
        refine V.callV0 (c_X8_goes _ G o ad sc I J (kN t) (kN i) (T (kN t)).2.2 l (by omega) hsl.2.2.2.2.2.2.2.2 hl40 hl) [] 0 9 rfl rfl rfl rfl (goodV kM_X8_165 kI_X8_goes kV_X8_goes kN_X8 kC_X8_goes) ds_X8_goes (by decide) (Nat.le_of_ble_eq_true rfl) dX8_measure_62 (by decide) (fun u hu => ?_)
        refine V.to (lv' := [(4, .int ((l.2.1) - (nI (l.2.2.1)))), (3, .int (nI (((40) * (kN t)) + (kN i)))), (0, .ref (o)), (1, .int (nI (kN t))), (2, .int (nI (kN i)))]) (st := []) (pc' := 65) rfl rfl rfl ?_
        refine V.iload dX8_measure_65 rfl ?_
        have hacc : isT tn t ∧ isT (T (kN t)).2.2.length i := ⟨p, q⟩
        exact V.iret (sc, u, (up2 J 23 (kN t) (J 23 (kN t) + l.2.1.toInt64))) rfl (by simp only [if_pos hacc]; rw [hget]) (by simp only [if_pos hacc]; exact mrep_slot hm hv hk hu.2 (fr.up ⟨by omega, by omega, rfl⟩) (by rw [show aud (kN i) (T (kN t)) = ((T (kN t)).1, ((T (kN t)).2.1.1, (T (kN t)).2.1.2.1, (T (kN t)).2.1.2.2.1, (T (kN t)).2.1.2.2.2.1, (T (kN t)).2.1.2.2.2.2.1, (T (kN t)).2.1.2.2.2.2.2 + l.2.1.toInt64), (T (kN t)).2.2.eraseIdx (kN i)) by rw [aud, hget, if_pos hz]]; exact ⟨hsl.1, hsl.2.1, hsl.2.2.1, hsl.2.2.2.1, hsl.2.2.2.2.1, hsl.2.2.2.2.2.1, hsl.2.2.2.2.2.2.1, (by rw [up2_s, hsl.2.2.2.2.2.2.2.1]), hu.1⟩)) rfl (by decide) (by decide) dX8_measure_67
    · have q := ite0.mp c_2
      refine V.iconst (v := -1) dX8_measure_26 (by decide) ?_
      have hacc : ¬ (isT tn t ∧ isT (T (kN t)).2.2.length i) := (fun z => q z.2)
      exact V.iret (sc, I, J) rfl (by simp only [if_neg hacc]) (by simp only [if_neg hacc]; exact hm) rfl (by decide) (by decide) dX8_measure_27
