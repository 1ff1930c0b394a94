set_option maxHeartbeats 4000000 in
set_option maxRecDepth 20000 in
theorem c_X8_cartsCome (l : Launch) (G : GG) (o : Nat) (ad : Nat → Nat) (sc : Int32 × Int32 × Int32) (I : Nat → Nat → Int32) (J : Nat → Nat → Int64) (g mo B : Nat) (R : Nat → Nat) (C : List Cr) (T : Nat → ST) (hg : g < 2) (hT : MRg I J g T) (hi : ∀ t, t < 8 → inv mo (R t) B (T t)) (hB : B ≤ 2 ^ 48) (hR : ∀ t, t < 8 → I 8 t = nI (R t)) (hR2 : ∀ t, t < 8 → R t ≤ 50000) (hmo : I 15 g = nI mo) (hmo2 : mo ≤ 4000) (hC : crR I g C) (hC60 : C.length ≤ 60) (hCb : ∀ c ∈ C, c.1 < 8 ∧ c.2.1 ≤ 5000 ∧ c.2.2 ≤ 10000) : Ct l G yX8_cartsCome cX8_cartsCome 8 none rm_X8_cartsCome [.ref (o), .int (nI (g))] (mw G o ad sc I J) (fun u : (Nat → Nat → Int32) × (Nat → Nat → Int64) => mw G o ad sc u.1 u.2) (fun u : (Nat → Nat → Int32) × (Nat → Nat → Int64) => none) (fun u : (Nat → Nat → Int32) × (Nat → Nat → Int64) => MRg u.1 u.2 g (unl R mo C T) ∧ crR u.1 g (C.filter (fun c => decide (mo < c.2.1))) ∧ fr (pC g) I u.1 ∧ fr (pXg g) J u.2) := by
  refine Ct.of (by decide) (Nat.le_of_ble_eq_true rfl) (fun X A hX => ?_)
  subst hX
  refine V.to (lv' := [(0, .ref (o)), (1, .int (nI (g)))]) (st := []) (pc' := 0) rfl rfl rfl ?_
  have loop : ∀ (d : Nat) (k : Nat) (D r1 : List Cr) (I1 : Nat → Nat → Int32) (J1 : Nat → Nat → Int64) (T1 : Nat → ST), r1.length < d → I1 17 g = nI C.length → k + r1.length = C.length → D.length ≤ k → (∀ i c, D[i]? = some c → crE I1 (60 * g + i) c) → (∀ i c, r1[i]? = some c → crE I1 (60 * g + (k + i)) c) → (∀ c ∈ r1, c.1 < 8 ∧ c.2.1 ≤ 5000 ∧ c.2.2 ≤ 10000) → MRg I1 J1 g T1 → (∀ t, t < 8 → inv mo (R t) (B + 10000 * k) (T1 t)) → unl R mo r1 T1 = unl R mo C T → D ++ r1.filter (fun c => decide (mo < c.2.1)) = C.filter (fun c => decide (mo < c.2.1)) → fr (pC g) I I1 → fr (pXg g) J J1 → V G X yX8_cartsCome cX8_cartsCome 8 none rm_X8_cartsCome A (MZ G X rm_X8_cartsCome A (fun u : (Nat → Nat → Int32) × (Nat → Nat → Int64) => mw G o ad sc u.1 u.2) (fun u : (Nat → Nat → Int32) × (Nat → Nat → Int64) => none) (fun u : (Nat → Nat → Int32) × (Nat → Nat → Int64) => MRg u.1 u.2 g (unl R mo C T) ∧ crR u.1 g (C.filter (fun c => decide (mo < c.2.1))) ∧ fr (pC g) I u.1 ∧ fr (pXg g) J u.2)) 0 0 (mw G o ad sc I1 J1) [(3, .int (nI (k))), (2, .int (nI (D.length))), (0, .ref (o)), (1, .int (nI (g)))] 4 [] := by
    intro d
    induction d with
    | zero => intro k D r1 I1 J1 T1 hd; exact absurd hd (Nat.not_lt_zero _)
    | succ d ih =>
      intro k D r1 I1 J1 T1 hd h17 hkr hDk hD hr1 hcb hT1 hi1 hun hfl hfr hfj
      have h15 : I1 15 g = nI mo := (hfr 15 g (by simp [pC])).trans hmo
      have h8 : ∀ t, t < 8 → I1 8 t = nI (R t) := fun t ht => (hfr 8 t (by simp [pC])).trans (hR t ht)
      refine V.iload_n dX8_cartsCome_4 rfl rfl ?_
      refine V.aload_n dX8_cartsCome_5 rfl rfl ?_
      refine Mg17 rfl dX8_cartsCome_6 ?_
      refine V.iload_n dX8_cartsCome_9 rfl rfl ?_
      refine Ml17 (g) rfl (by omega) dX8_cartsCome_10 ?_
      refine V.ei (y := nI (C.length)) h17 ?_
      refine V.icmp_ge (tgt := 178) dX8_cartsCome_11 (by decide) (fun c_1 => ?_) (fun c_1 => ?_)
      · have he : r1 = [] := by
          cases r1 with
          | nil => rfl
          | cons q1 q2 => have := (nI_leI (by omega) (by omega)).mp c_1; simp at hkr; omega
        subst he
        refine V.aload_n dX8_cartsCome_178 rfl rfl ?_
        refine Mg17 rfl dX8_cartsCome_179 ?_
        refine V.iload_n dX8_cartsCome_182 rfl rfl ?_
        refine V.iload_n dX8_cartsCome_183 rfl rfl ?_
        refine Ms17 (g) rfl (by omega) dX8_cartsCome_184 ?_
        simp only [List.filter_nil, List.append_nil] at hfl
        simp only [unl] at hun
        exact V.vret (up2 I1 17 g (nI D.length), J1) rfl rfl ⟨by rw [← hun]; exact MRg_keep (P := fun k j => k = 17 ∧ j = g) (P' := fun _ _ => False) hT1 (fun t ht => (hi1 t ht).1) (fr.up ⟨rfl, rfl⟩) fr.rf (fun k j z => by omega) (fun k j z => z.elim), by rw [← hfl]; exact ⟨up2_s I1 17 g _, fun i c hc => crE_fr (fr.up (P := fun k j => k = 17 ∧ j = g) ⟨rfl, rfl⟩) (hD i c hc) (fun k h1 h2 z => by omega)⟩, hfr.tr (fr.up (Or.inl ⟨rfl, rfl⟩)), hfj⟩ rfl (by decide) (by decide) dX8_cartsCome_185
      · obtain ⟨q, r2, rfl⟩ : ∃ q r2, r1 = q :: r2 := by
          cases r1 with
          | nil => exact absurd (nI_le (by simp at hkr; omega) (by omega)) c_1
          | cons q1 q2 => exact ⟨q1, q2, rfl⟩
        have hq := hcb q (by simp)
        have hk : k < C.length := by simp at hkr; omega
        refine V.bipush (v := nI (60)) dX8_cartsCome_14 rfl ?_
        refine V.iload_n dX8_cartsCome_16 rfl rfl ?_
        refine V.imul dX8_cartsCome_17 ?_
        refine V.ei (pk_mul _ _) ?_
        refine V.iload_n dX8_cartsCome_18 rfl rfl ?_
        refine V.iadd dX8_cartsCome_19 ?_
        refine V.ei (nI_add _ _) ?_
        refine V.istore (lv' := [(4, .int (nI (((60) * (g)) + (k)))), (3, .int (nI (k))), (2, .int (nI (D.length))), (0, .ref (o)), (1, .int (nI (g)))]) dX8_cartsCome_20 (by decide) rfl ?_
        refine V.aload_n dX8_cartsCome_22 rfl rfl ?_
        refine Mg19 rfl dX8_cartsCome_23 ?_
        refine V.iload dX8_cartsCome_26 rfl ?_
        refine Ml19 (((60) * (g)) + (k)) rfl (by omega) dX8_cartsCome_28 ?_
        refine V.ei (y := nI (q.2.1)) (hr1 0 q rfl).2.1 ?_
        refine V.aload_n dX8_cartsCome_29 rfl rfl ?_
        refine Mg15 rfl dX8_cartsCome_30 ?_
        refine V.iload_n dX8_cartsCome_33 rfl rfl ?_
        refine Ml15 (g) rfl (by omega) dX8_cartsCome_34 ?_
        refine V.ei (y := nI (mo)) h15 ?_
        refine V.icmp_le (tgt := 98) dX8_cartsCome_35 (by decide) (fun c_2 => ?_) (fun c_2 => ?_)
        · have harr : q.2.1 ≤ mo := (nI_leI (by omega) (by omega)).mp c_2
          have hRq := hR2 q.1 hq.1
          have hok := (hi1 q.1 hq.1).okS hRq hmo2 (by omega)
          refine V.aload_n dX8_cartsCome_98 rfl rfl ?_
          refine Mg18 rfl dX8_cartsCome_99 ?_
          refine V.iload dX8_cartsCome_102 rfl ?_
          refine Ml18 (((60) * (g)) + (k)) rfl (by omega) dX8_cartsCome_104 ?_
          refine V.ei (y := nI (q.1)) (hr1 0 q rfl).1 ?_
          refine V.istore (lv' := [(5, .int (nI (q.1))), (4, .int (nI (((60) * (g)) + (k)))), (3, .int (nI (k))), (2, .int (nI (D.length))), (0, .ref (o)), (1, .int (nI (g)))]) dX8_cartsCome_105 (by decide) rfl ?_
          refine V.aload_n dX8_cartsCome_107 rfl rfl ?_
          refine Mg20 rfl dX8_cartsCome_108 ?_
          refine V.iload dX8_cartsCome_111 rfl ?_
          refine Ml20 (((60) * (g)) + (k)) rfl (by omega) dX8_cartsCome_113 ?_
          refine V.ei (y := nI (q.2.2)) (hr1 0 q rfl).2.2 ?_
          refine V.i2l (v := lN (q.2.2)) dX8_cartsCome_114 (nI_l (by omega)) ?_
          refine V.aload_n dX8_cartsCome_115 rfl rfl ?_
          refine V.iload_n dX8_cartsCome_116 rfl rfl ?_
          refine V.iload dX8_cartsCome_117 rfl ?_
          refine V.callV0 (c_X8_space _ G o ad sc I1 J1 g q.1 (R q.1) (T1 q.1).2.2 hq.1 (by omega) (h8 q.1 hq.1) hRq (hT1 q.1 hq.1).2.2.2.2.2.2.2.2 hok.1) [.long (lN (q.2.2))] 0 9 rfl rfl rfl rfl (goodV kM_X8_173 kI_X8_space kV_X8_space kN_X8 kC_X8_space) ds_X8_space (by decide) (Nat.le_of_ble_eq_true rfl) dX8_cartsCome_119 (by decide) (fun u hu => ?_)
          refine V.to (lv' := [(5, .int (nI (q.1))), (4, .int (nI (((60) * (g)) + (k)))), (3, .int (nI (k))), (2, .int (nI (D.length))), (0, .ref (o)), (1, .int (nI (g)))]) (st := [.long (lN (R q.1 - tsum (T1 q.1).2.2)), .long (lN (q.2.2))]) (pc' := 122) rfl rfl rfl ?_
          refine V.callSE (c_X8_least _ G (lN (q.2.2)) (lN (R q.1 - tsum (T1 q.1).2.2))) [] rfl (goodS kM_X8_177 kS_X8_least kN_X8 kC_X8_least) ds_X8_least (by decide) (Nat.le_of_ble_eq_true rfl) dX8_cartsCome_122 (by decide) (fun u hu => ?_)
          refine V.to (lv' := [(5, .int (nI (q.1))), (4, .int (nI (((60) * (g)) + (k)))), (3, .int (nI (k))), (2, .int (nI (D.length))), (0, .ref (o)), (1, .int (nI (g)))]) (st := [.long (if lN (q.2.2) < lN (R q.1 - tsum (T1 q.1).2.2) then lN (q.2.2) else lN (R q.1 - tsum (T1 q.1).2.2))]) (pc' := 125) rfl rfl rfl ?_
          refine V.el (leastN (by omega) (by omega)) ?_
          obtain ⟨n, hn⟩ : ∃ n, min q.2.2 (R q.1 - tsum (T1 q.1).2.2) = n := ⟨_, rfl⟩
          have hnn : n ≤ q.2.2 := by rw [← hn]; exact Nat.min_le_left _ _
          refine V.el (y := lN (n)) (by rw [← hn]) ?_
          refine V.lstore (lv' := [(6, .long (lN (n))), (5, .int (nI (q.1))), (4, .int (nI (((60) * (g)) + (k)))), (3, .int (nI (k))), (2, .int (nI (D.length))), (0, .ref (o)), (1, .int (nI (g)))]) dX8_cartsCome_125 (by decide) rfl ?_
          refine V.aload_n dX8_cartsCome_127 rfl rfl ?_
          refine V.bipush (v := nI (8)) dX8_cartsCome_128 rfl ?_
          refine V.iload_n dX8_cartsCome_130 rfl rfl ?_
          refine V.imul dX8_cartsCome_131 ?_
          refine V.ei (pk_mul _ _) ?_
          refine V.iload dX8_cartsCome_132 rfl ?_
          refine V.iadd dX8_cartsCome_134 ?_
          refine V.ei (nI_add _ _) ?_
          refine V.lload dX8_cartsCome_135 rfl ?_
          refine V.aload_n dX8_cartsCome_137 rfl rfl ?_
          refine Mg15 rfl dX8_cartsCome_138 ?_
          refine V.iload_n dX8_cartsCome_141 rfl rfl ?_
          refine Ml15 (g) rfl (by omega) dX8_cartsCome_142 ?_
          refine V.ei (y := nI (mo)) h15 ?_
          refine V.callV0 (c_X8_comes _ G o ad sc I1 J1 (8 * g + q.1) n mo (T1 q.1).2.2 (by omega) (hT1 q.1 hq.1).2.2.2.2.2.2.2.2 hok.1.1 (by omega) hok.1.2.2 hmo2) [] 0 9 rfl rfl rfl rfl (goodV kM_X8_181 kI_X8_comes kV_X8_comes kN_X8 kC_X8_comes) ds_X8_comes (by decide) (Nat.le_of_ble_eq_true rfl) dX8_cartsCome_143 (by decide) (fun u hu => ?_)
          refine V.to (lv' := [(6, .long (lN (n))), (5, .int (nI (q.1))), (4, .int (nI (((60) * (g)) + (k)))), (3, .int (nI (k))), (2, .int (nI (D.length))), (0, .ref (o)), (1, .int (nI (g)))]) (st := []) (pc' := 146) rfl rfl rfl ?_
          refine V.aload_n dX8_cartsCome_146 rfl rfl ?_
          refine Mg21 rfl dX8_cartsCome_147 ?_
          refine V.bipush (v := nI (8)) dX8_cartsCome_150 rfl ?_
          refine V.iload_n dX8_cartsCome_152 rfl rfl ?_
          refine V.imul dX8_cartsCome_153 ?_
          refine V.ei (pk_mul _ _) ?_
          refine V.iload dX8_cartsCome_154 rfl ?_
          refine V.iadd dX8_cartsCome_156 ?_
          refine V.ei (nI_add _ _) ?_
          refine V.dup2_11 dX8_cartsCome_157 rfl rfl ?_
          refine Ml21 (((8) * (g)) + (q.1)) rfl (by omega) dX8_cartsCome_158 ?_
          refine V.el (y := lN ((T1 q.1).1.1)) (hT1 q.1 hq.1).1 ?_
          refine V.aload_n dX8_cartsCome_159 rfl rfl ?_
          refine Mg20 rfl dX8_cartsCome_160 ?_
          refine V.iload dX8_cartsCome_163 rfl ?_
          refine Ml20 (((60) * (g)) + (k)) rfl (by omega) dX8_cartsCome_165 ?_
          refine V.ei (y := nI (q.2.2)) ((hu.2 20 _ (by simp [pS])).trans (hr1 0 q rfl).2.2) ?_
          refine V.i2l (v := lN (q.2.2)) dX8_cartsCome_166 (nI_l (by omega)) ?_
          refine V.lload dX8_cartsCome_167 rfl ?_
          refine V.lsub dX8_cartsCome_169 ?_
          refine V.el (y := lN (q.2.2 - n)) (lN_sub hnn) ?_
          refine V.ladd dX8_cartsCome_170 ?_
          refine V.el (lN_add _ _) ?_
          refine Ms21 (((8) * (g)) + (q.1)) rfl (by omega) dX8_cartsCome_171 ?_
          refine V.iinc (k := 3) (v := nI (k + 1)) (lv' := [(3, .int (nI (k + 1))), (6, .long (lN (n))), (5, .int (nI (q.1))), (4, .int (nI (((60) * (g)) + (k)))), (2, .int (nI (D.length))), (0, .ref (o)), (1, .int (nI (g)))]) dX8_cartsCome_172 rfl (iinc1 _) (by decide) rfl ?_
          refine V.goto (tgt := 4) dX8_cartsCome_175 (by decide) ?_
          refine V.pick [0, 4, 5, 6] (lv' := [(3, .int (nI (k + 1))), (2, .int (nI (D.length))), (0, .ref (o)), (1, .int (nI (g)))]) rfl ?_; exact ih (k + 1) D r2 _ _ _ (by simp at hd; omega) ((hu.2 17 g (by simp [pS])).trans h17) (by simp at hkr; omega) (by omega) (fun i c hc => crE_fr hu.2 (hD i c hc) (fun k h1 h2 z => by simp only [pS] at z; omega)) (fun i c hc => crE_fr hu.2 (by have := hr1 (i + 1) c hc; rw [show k + 1 + i = k + (i + 1) by omega]; exact this) (fun k h1 h2 z => by simp only [pS] at z; omega)) (fun c hc => hcb c (List.mem_cons_of_mem _ hc)) (MRg_up hT1 (fun t ht => (hi1 t ht).1) hu.2 (fr.up (P := pX (8 * g + q.1)) ⟨by omega, by omega, rfl⟩) (show slotR _ _ _ (rcv (R q.1) q.2.2 mo (T1 q.1)) from by rw [show rcv (R q.1) q.2.2 mo (T1 q.1) = (((T1 q.1).1.1 + (q.2.2 - n), (T1 q.1).1.2), (T1 q.1).2.1, pt n mo (T1 q.1).2.2) by rw [rcv, hn]]; exact ⟨(by simp [up2]), (hT1 q.1 hq.1).2.1, (hT1 q.1 hq.1).2.2.1, (hT1 q.1 hq.1).2.2.2.1, (hT1 q.1 hq.1).2.2.2.2.1, (hT1 q.1 hq.1).2.2.2.2.2.1, (hT1 q.1 hq.1).2.2.2.2.2.2.1, (hT1 q.1 hq.1).2.2.2.2.2.2.2.1, hu.1⟩) (fun k j z => Or.inl z) (fun k j z => Or.inl z)) (fun t ht => by
            by_cases z : t = q.1
            · subst z; rw [show upf T1 q.1 (rcv (R q.1) q.2.2 mo (T1 q.1)) q.1 = rcv (R q.1) q.2.2 mo (T1 q.1) by simp [upf]]; exact (inv_rcv (n := q.2.2) (hi1 q.1 ht)).mono (Nat.le_refl _) (by omega)
            · rw [show upf T1 q.1 (rcv (R q.1) q.2.2 mo (T1 q.1)) t = T1 t by simp [upf, z]]; exact (hi1 t ht).mono (Nat.le_refl _) (by omega)) (by rw [← hun, unl, if_pos harr]) (by rw [← hfl, List.filter_cons, if_neg (by simp; omega)]) (hfr.tr (hu.2.mono (fun k j z => by simp only [pS, pC] at *; omega))) (hfj.tr (fr.up ⟨by omega, by omega, by omega, by omega⟩))
        · have harr : ¬ q.2.1 ≤ mo := fun z => c_2 (nI_le z (by omega))
          refine V.aload_n dX8_cartsCome_38 rfl rfl ?_
          refine Mg18 rfl dX8_cartsCome_39 ?_
          refine V.bipush (v := nI (60)) dX8_cartsCome_42 rfl ?_
          refine V.iload_n dX8_cartsCome_44 rfl rfl ?_
          refine V.imul dX8_cartsCome_45 ?_
          refine V.ei (pk_mul _ _) ?_
          refine V.iload_n dX8_cartsCome_46 rfl rfl ?_
          refine V.iadd dX8_cartsCome_47 ?_
          refine V.ei (nI_add _ _) ?_
          refine V.aload_n dX8_cartsCome_48 rfl rfl ?_
          refine Mg18 rfl dX8_cartsCome_49 ?_
          refine V.iload dX8_cartsCome_52 rfl ?_
          refine Ml18 (((60) * (g)) + (k)) rfl (by omega) dX8_cartsCome_54 ?_
          refine V.ei (y := nI (q.1)) (hr1 0 q rfl).1 ?_
          refine Ms18 (((60) * (g)) + (D.length)) rfl (by omega) dX8_cartsCome_55 ?_
          refine V.aload_n dX8_cartsCome_56 rfl rfl ?_
          refine Mg19 rfl dX8_cartsCome_57 ?_
          refine V.bipush (v := nI (60)) dX8_cartsCome_60 rfl ?_
          refine V.iload_n dX8_cartsCome_62 rfl rfl ?_
          refine V.imul dX8_cartsCome_63 ?_
          refine V.ei (pk_mul _ _) ?_
          refine V.iload_n dX8_cartsCome_64 rfl rfl ?_
          refine V.iadd dX8_cartsCome_65 ?_
          refine V.ei (nI_add _ _) ?_
          refine V.aload_n dX8_cartsCome_66 rfl rfl ?_
          refine Mg19 rfl dX8_cartsCome_67 ?_
          refine V.iload dX8_cartsCome_70 rfl ?_
          refine Ml19 (((60) * (g)) + (k)) rfl (by omega) dX8_cartsCome_72 ?_
          refine V.ei (y := nI (q.2.1)) (hr1 0 q rfl).2.1 ?_
          refine Ms19 (((60) * (g)) + (D.length)) rfl (by omega) dX8_cartsCome_73 ?_
          refine V.aload_n dX8_cartsCome_74 rfl rfl ?_
          refine Mg20 rfl dX8_cartsCome_75 ?_
          refine V.bipush (v := nI (60)) dX8_cartsCome_78 rfl ?_
          refine V.iload_n dX8_cartsCome_80 rfl rfl ?_
          refine V.imul dX8_cartsCome_81 ?_
          refine V.ei (pk_mul _ _) ?_
          refine V.iload_n dX8_cartsCome_82 rfl rfl ?_
          refine V.iadd dX8_cartsCome_83 ?_
          refine V.ei (nI_add _ _) ?_
          refine V.aload_n dX8_cartsCome_84 rfl rfl ?_
          refine Mg20 rfl dX8_cartsCome_85 ?_
          refine V.iload dX8_cartsCome_88 rfl ?_
          refine Ml20 (((60) * (g)) + (k)) rfl (by omega) dX8_cartsCome_90 ?_
          refine V.ei (y := nI (q.2.2)) (hr1 0 q rfl).2.2 ?_
          refine Ms20 (((60) * (g)) + (D.length)) rfl (by omega) dX8_cartsCome_91 ?_
          refine V.iinc (k := 2) (v := nI (D.length + 1)) (lv' := [(2, .int (nI (D.length + 1))), (4, .int (nI (((60) * (g)) + (k)))), (3, .int (nI (k))), (0, .ref (o)), (1, .int (nI (g)))]) dX8_cartsCome_92 rfl (iinc1 _) (by decide) rfl ?_
          refine V.goto (tgt := 172) dX8_cartsCome_95 (by decide) ?_
          refine V.iinc (k := 2) (v := nI (k + 1)) (lv' := [(3, .int (nI (k + 1))), (2, .int (nI (D.length + 1))), (4, .int (nI (((60) * (g)) + (k)))), (0, .ref (o)), (1, .int (nI (g)))]) dX8_cartsCome_172 rfl (iinc1 _) (by decide) rfl ?_
          refine V.goto (tgt := 4) dX8_cartsCome_175 (by decide) ?_
          refine V.wd (ws' := mw G o ad sc (w3 I1 (60 * g + D.length) q) J1) rfl ?_
          refine V.to (lv' := [(3, .int (nI (k + 1))), (2, .int (nI ((D ++ [q]).length))), (4, .int (nI (((60) * (g)) + (k)))), (0, .ref (o)), (1, .int (nI (g)))]) (st := []) (pc' := 4) (by rw [show D.length + 1 = (D ++ [q]).length by simp]) rfl rfl ?_
          refine V.pick [0, 1, 3, 4] (lv' := [(3, .int (nI (k + 1))), (2, .int (nI ((D ++ [q]).length))), (0, .ref (o)), (1, .int (nI (g)))]) rfl ?_; exact ih (k + 1) (D ++ [q]) r2 _ _ _ (by simp at hd; omega) h17 (by simp at hkr; omega) (by simp; omega) (fun i c hc => by
            by_cases z : i < D.length
            · rw [List.getElem?_append_left z] at hc; exact w3_other (by omega) (hD i c hc)
            · have z2 := lt_get hc; simp at z2; have z3 : i = D.length := by omega
              subst z3; rw [List.getElem?_append_right (by omega)] at hc; simp at hc; subst hc; exact w3_same _ _ _) (fun i c hc => w3_other (by omega) (by have := hr1 (i + 1) c hc; rw [show k + 1 + i = k + (i + 1) by omega]; exact this)) (fun c hc => hcb c (List.mem_cons_of_mem _ hc)) (MRg_keep (P := fun k j => 18 ≤ k ∧ k ≤ 20 ∧ j = 60 * g + D.length) (P' := fun _ _ => False) hT1 (fun t ht => (hi1 t ht).1) w3_fr fr.rf (fun k j z => by omega) (fun k j z => z.elim)) (fun t ht => (hi1 t ht).mono (Nat.le_refl _) (by omega)) (by rw [← hun, unl, if_neg harr]) (by rw [← hfl, List.filter_cons, if_pos (by simp; omega)]; simp) (hfr.tr (w3_fr.mono (fun k j z => by simp only [pC]; omega))) hfj
  refine V.iconst (v := nI (0)) dX8_cartsCome_0 rfl ?_
  refine V.istore_n (lv' := [(2, .int (nI (0))), (0, .ref (o)), (1, .int (nI (g)))]) dX8_cartsCome_1 rfl (by decide) rfl ?_
  refine V.iconst (v := nI (0)) dX8_cartsCome_2 rfl ?_
  refine V.istore_n (lv' := [(3, .int (nI (0))), (2, .int (nI (0))), (0, .ref (o)), (1, .int (nI (g)))]) dX8_cartsCome_3 rfl (by decide) rfl ?_
  refine V.pick [0, 1, 2, 3] (lv' := [(3, .int (nI (0))), (2, .int (nI (0))), (0, .ref (o)), (1, .int (nI (g)))]) rfl ?_; exact loop (C.length + 1) 0 [] C I J T (by omega) hC.1 (by omega) (by simp) (fun i c hc => by simp at hc) (fun i c hc => by rw [Nat.zero_add]; exact hC.2 i c hc) hCb hT (fun t ht => (hi t ht).mono (Nat.le_refl _) (by omega)) rfl rfl fr.rf fr.rf
