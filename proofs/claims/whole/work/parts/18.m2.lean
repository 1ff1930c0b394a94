set_option maxHeartbeats 4000000 in
set_option maxRecDepth 20000 in
theorem c_X8_harvests (l : Launch) (G : GG) (o : Nat) (ad : Nat → Nat) (sc : Int32 × Int32 × Int32) (I : Nat → Nat → Int32) (J : Nat → Nat → Int64) (g t r mo h : Nat) (s : ST) (hg : g < 2) (ht : t < 8) (hs : slotR I J (8 * g + t) s) (ok : okS r s) (hr : I 8 t = nI r) (hr2 : r ≤ 50000) (hmo : I 15 g = nI mo) (hmo2 : mo ≤ 4000) (hh : (g = 0 ∧ (I 9 t = nI h ∨ (h = 0 ∧ I 9 t = -1))) ∨ (g = 1 ∧ h = 0)) (hh2 : h ≤ 100000) : Ct l G yX8_harvests cX8_harvests 6 none rm_X8_harvests [.ref (o), .int (nI (g)), .int (nI (t))] (mw G o ad sc I J) (fun u : (Nat → Nat → Int32) × (Nat → Nat → Int64) => mw G o ad sc u.1 u.2) (fun u : (Nat → Nat → Int32) × (Nat → Nat → Int64) => none) (fun u : (Nat → Nat → Int32) × (Nat → Nat → Int64) => slotR u.1 u.2 (8 * g + t) (hvs r mo h s) ∧ fr (fun k j => pS (8 * g + t) k j ∨ (g = 0 ∧ k = 9 ∧ j = t)) I u.1 ∧ fr (pX (8 * g + t)) J u.2 ∧ (g = 0 → u.1 9 t = -1)) := by
  refine Ct.of (by decide) (Nat.le_of_ble_eq_true rfl) (fun X A hX => ?_)
  subst hX
  refine V.to (lv' := [(0, .ref (o)), (1, .int (nI (g))), (2, .int (nI (t)))]) (st := []) (pc' := 0) rfl rfl rfl ?_
  have ho1 := ok.2.1
  have ho2 := ok.2.2.1
  have ho3 := ok.2.2.2
  have tail : ∀ (I1 : Nat → Nat → Int32) (J1 : Nat → Nat → Int64), slotR I1 J1 (8 * g + t) (rea h s) → I1 15 g = nI mo → I1 8 t = nI r → fr (fun k j => pS (8 * g + t) k j ∨ (g = 0 ∧ k = 9 ∧ j = t)) I I1 → fr (pX (8 * g + t)) J J1 → (g = 0 → I1 9 t = -1) → V G X yX8_harvests cX8_harvests 6 none rm_X8_harvests A (MZ G X rm_X8_harvests A (fun u : (Nat → Nat → Int32) × (Nat → Nat → Int64) => mw G o ad sc u.1 u.2) (fun u : (Nat → Nat → Int32) × (Nat → Nat → Int64) => none) (fun u : (Nat → Nat → Int32) × (Nat → Nat → Int64) => slotR u.1 u.2 (8 * g + t) (hvs r mo h s) ∧ fr (fun k j => pS (8 * g + t) k j ∨ (g = 0 ∧ k = 9 ∧ j = t)) I u.1 ∧ fr (pX (8 * g + t)) J u.2 ∧ (g = 0 → u.1 9 t = -1))) 0 0 (mw G o ad sc I1 J1) [(3, .int (nI (8 * g + t))), (0, .ref (o)), (1, .int (nI (g))), (2, .int (nI (t)))] 44 [] := by
    intro I1 J1 h1 h15 h8 hf hfj h9
    refine V.aload_n dX8_harvests_44 rfl rfl ?_
    refine Mg15 rfl dX8_harvests_45 ?_
    refine V.iload_n dX8_harvests_48 rfl rfl ?_
    refine Ml15 (g) rfl (by omega) dX8_harvests_49 ?_
    refine V.ei (y := nI (mo)) h15 ?_
    refine V.bipush (v := nI (12)) dX8_harvests_50 rfl ?_
    refine V.irem dX8_harvests_52 (by decide) ?_
    refine V.ei (y := nI (mo % 12)) (pk_rem (by omega) (by omega) (by omega)) ?_
    refine V.bipush (v := nI (9)) dX8_harvests_53 rfl ?_
    refine V.icmp_eq (tgt := 59) dX8_harvests_55 (by decide) (fun c_1 => ?_) (fun c_1 => ?_)
    · have hm9 : mo % 12 = 9 := (nI_eq (by omega) (by omega)).mp c_1
      refine V.aload_n dX8_harvests_59 rfl rfl ?_
      refine Mg26 rfl dX8_harvests_60 ?_
      refine V.iload_n dX8_harvests_63 rfl rfl ?_
      refine Ml26 (8 * g + t) rfl (by omega) dX8_harvests_64 ?_
      refine V.el (y := lN (s.1.2)) h1.2.1 ?_
      refine V.aload_n dX8_harvests_65 rfl rfl ?_
      refine Mg21 rfl dX8_harvests_66 ?_
      refine V.iload_n dX8_harvests_69 rfl rfl ?_
      refine Ml21 (8 * g + t) rfl (by omega) dX8_harvests_70 ?_
      refine V.el (y := lN (s.1.1 + h)) h1.1 ?_
      refine V.aload_n dX8_harvests_71 rfl rfl ?_
      refine V.iload_n dX8_harvests_72 rfl rfl ?_
      refine V.iload_n dX8_harvests_73 rfl rfl ?_
      refine V.callV0 (c_X8_space _ G o ad sc I1 J1 g t r s.2.2 ht (by omega) h8 hr2 h1.2.2.2.2.2.2.2.2 ok.1) [.long (lN (s.1.1 + h)), .long (lN (s.1.2))] 0 9 rfl rfl rfl rfl (goodV kM_X8_173 kI_X8_space kV_X8_space kN_X8 kC_X8_space) ds_X8_space (by decide) (Nat.le_of_ble_eq_true rfl) dX8_harvests_74 (by decide) (fun u hu => ?_)
      refine V.to (lv' := [(3, .int (nI (8 * g + t))), (0, .ref (o)), (1, .int (nI (g))), (2, .int (nI (t)))]) (st := [.long (lN (r - tsum s.2.2)), .long (lN (s.1.1 + h)), .long (lN (s.1.2))]) (pc' := 77) rfl rfl rfl ?_
      refine V.callSE (c_X8_least _ G (lN (s.1.1 + h)) (lN (r - tsum s.2.2))) [.long (lN (s.1.2))] rfl (goodS kM_X8_177 kS_X8_least kN_X8 kC_X8_least) ds_X8_least (by decide) (Nat.le_of_ble_eq_true rfl) dX8_harvests_77 (by decide) (fun u hu => ?_)
      refine V.to (lv' := [(3, .int (nI (8 * g + t))), (0, .ref (o)), (1, .int (nI (g))), (2, .int (nI (t)))]) (st := [.long (if lN (s.1.1 + h) < lN (r - tsum s.2.2) then lN (s.1.1 + h) else lN (r - tsum s.2.2)), .long (lN (s.1.2))]) (pc' := 80) rfl rfl rfl ?_
      refine V.el (leastN (by omega) (by omega)) ?_
      refine V.callSE (c_X8_least _ G (lN (s.1.2)) (lN (min (s.1.1 + h) (r - tsum s.2.2)))) [] rfl (goodS kM_X8_177 kS_X8_least kN_X8 kC_X8_least) ds_X8_least (by decide) (Nat.le_of_ble_eq_true rfl) dX8_harvests_80 (by decide) (fun u hu => ?_)
      refine V.to (lv' := [(3, .int (nI (8 * g + t))), (0, .ref (o)), (1, .int (nI (g))), (2, .int (nI (t)))]) (st := [.long (if lN (s.1.2) < lN (min (s.1.1 + h) (r - tsum s.2.2)) then lN (s.1.2) else lN (min (s.1.1 + h) (r - tsum s.2.2)))]) (pc' := 83) rfl rfl rfl ?_
      refine V.el (leastN (by omega) (by omega)) ?_
      have hp : payN r (rea h s) ≤ s.1.2 ∧ payN r (rea h s) ≤ s.1.1 + h ∧ payN r (rea h s) ≤ r - tsum s.2.2 := by simp only [payN, rea]; omega
      obtain ⟨n, hn⟩ : ∃ n, payN r (rea h s) = n := ⟨_, rfl⟩
      rw [hn] at hp
      refine V.el (y := lN (n)) (by rw [← hn]; rfl) ?_
      refine V.lstore (lv' := [(4, .long (lN (n))), (3, .int (nI (8 * g + t))), (0, .ref (o)), (1, .int (nI (g))), (2, .int (nI (t)))]) dX8_harvests_83 (by decide) rfl ?_
      refine V.aload_n dX8_harvests_85 rfl rfl ?_
      refine Mg21 rfl dX8_harvests_86 ?_
      refine V.iload_n dX8_harvests_89 rfl rfl ?_
      refine V.dup2_11 dX8_harvests_90 rfl rfl ?_
      refine Ml21 (8 * g + t) rfl (by omega) dX8_harvests_91 ?_
      refine V.el (y := lN (s.1.1 + h)) h1.1 ?_
      refine V.lload dX8_harvests_92 rfl ?_
      refine V.lsub dX8_harvests_94 ?_
      refine V.el (y := lN (s.1.1 + h - n)) (lN_sub (by omega)) ?_
      refine Ms21 (8 * g + t) rfl (by omega) dX8_harvests_95 ?_
      refine V.aload_n dX8_harvests_96 rfl rfl ?_
      refine Mg26 rfl dX8_harvests_97 ?_
      refine V.iload_n dX8_harvests_100 rfl rfl ?_
      refine V.dup2_11 dX8_harvests_101 rfl rfl ?_
      refine Ml26 (8 * g + t) rfl (by omega) dX8_harvests_102 ?_
      refine V.el (y := lN (s.1.2)) h1.2.1 ?_
      refine V.lload dX8_harvests_103 rfl ?_
      refine V.lsub dX8_harvests_105 ?_
      refine V.el (y := lN (s.1.2 - n)) (lN_sub (by omega)) ?_
      refine Ms26 (8 * g + t) rfl (by omega) dX8_harvests_106 ?_
      refine V.aload_n dX8_harvests_107 rfl rfl ?_
      refine V.iload_n dX8_harvests_108 rfl rfl ?_
      refine V.lload dX8_harvests_109 rfl ?_
      refine V.aload_n dX8_harvests_111 rfl rfl ?_
      refine Mg15 rfl dX8_harvests_112 ?_
      refine V.iload_n dX8_harvests_115 rfl rfl ?_
      refine Ml15 (g) rfl (by omega) dX8_harvests_116 ?_
      refine V.ei (y := nI (mo)) h15 ?_
      refine V.callV0 (c_X8_comes _ G o ad sc I1 (up2 (up2 J1 21 (8 * g + t) (lN (s.1.1 + h - n))) 26 (8 * g + t) (lN (s.1.2 - n))) (8 * g + t) n mo s.2.2 (by omega) h1.2.2.2.2.2.2.2.2 ok.1.1 (by omega) ok.1.2.2 hmo2) [] 0 9 rfl rfl rfl rfl (goodV kM_X8_181 kI_X8_comes kV_X8_comes kN_X8 kC_X8_comes) ds_X8_comes (by decide) (Nat.le_of_ble_eq_true rfl) dX8_harvests_117 (by decide) (fun u hu => ?_)
      refine V.to (lv' := [(4, .long (lN (n))), (3, .int (nI (8 * g + t))), (0, .ref (o)), (1, .int (nI (g))), (2, .int (nI (t)))]) (st := []) (pc' := 120) rfl rfl rfl ?_
      exact V.vret (u, (up2 (up2 J1 21 (8 * g + t) (lN (s.1.1 + h - n))) 26 (8 * g + t) (lN (s.1.2 - n)))) rfl rfl ⟨by rw [show hvs r mo h s = ((s.1.1 + h - n, s.1.2 - n), s.2.1, pt n mo s.2.2) by rw [hvs, if_pos hm9, pay, hn]; rfl]; exact ⟨(by simp [up2]), (by simp [up2]), h1.2.2.1, h1.2.2.2.1, h1.2.2.2.2.1, h1.2.2.2.2.2.1, h1.2.2.2.2.2.2.1, h1.2.2.2.2.2.2.2.1, hu.1⟩, hf.tr (hu.2.mono (fun _ _ z => Or.inl z)), hfj.tr ((fr.up ⟨by omega, by omega, rfl⟩).tr (fr.up ⟨by omega, by omega, rfl⟩)), fun z => (hu.2 9 t (by simp [pS])).trans (h9 z)⟩ rfl (by decide) (by decide) dX8_harvests_120
    · have hm9 : ¬ mo % 12 = 9 := fun q => c_1 (by rw [q])
      exact V.vret (I1, J1) rfl rfl ⟨by rw [hvs, if_neg hm9]; exact h1, hf, hfj, h9⟩ rfl (by decide) (by decide) dX8_harvests_58
  refine V.bipush (v := nI (8)) dX8_harvests_0 rfl ?_
  refine V.iload_n dX8_harvests_2 rfl rfl ?_
  refine V.imul dX8_harvests_3 ?_
  refine V.ei (pk_mul _ _) ?_
  refine V.iload_n dX8_harvests_4 rfl rfl ?_
  refine V.iadd dX8_harvests_5 ?_
  refine V.ei (nI_add _ _) ?_
  refine V.istore_n (lv' := [(3, .int (nI (((8) * (g)) + (t)))), (0, .ref (o)), (1, .int (nI (g))), (2, .int (nI (t)))]) dX8_harvests_6 rfl (by decide) rfl ?_
  refine V.iload_n dX8_harvests_7 rfl rfl ?_
  refine V.if_ne (tgt := 44) dX8_harvests_8 (by decide) (fun c_1 => ?_) (fun c_1 => ?_)
  · have hg0 : g ≠ 0 := fun q => c_1 (by rw [q]; rfl)
    have hh0 : h = 0 := by rcases hh with q | q; exact absurd q.1 hg0; exact q.2
    have h9m : g = 0 → I 9 t = -1 := fun q => absurd q hg0
    refine V.pick [0, 1, 2, 3] (lv' := [(3, .int (nI (((8) * (g)) + (t)))), (0, .ref (o)), (1, .int (nI (g))), (2, .int (nI (t)))]) rfl ?_; exact tail I J (by rw [hh0, rea_0]; exact hs) hmo hr fr.rf fr.rf h9m
  · have hg0 : g = 0 := (nI_eq (b := 0) (by omega) (by omega)).mp c_1
    have hh1 : I 9 t = nI h ∨ (h = 0 ∧ I 9 t = -1) := by rcases hh with q | q; exact q.2; omega
    refine V.aload_n dX8_harvests_11 rfl rfl ?_
    refine Mg9 rfl dX8_harvests_12 ?_
    refine V.iload_n dX8_harvests_15 rfl rfl ?_
    refine Ml9 (t) rfl (by omega) dX8_harvests_16 ?_
    refine V.iconst (v := -1) dX8_harvests_17 (by decide) ?_
    refine V.icmp_eq (tgt := 44) dX8_harvests_18 (by decide) (fun c_2 => ?_) (fun c_2 => ?_)
    · have hh0 : h = 0 := by rcases hh1 with q | q; exact absurd (q.symm.trans c_2) (nI_ne_m1 (by omega)); exact q.1
      have h9m : g = 0 → I 9 t = -1 := fun _ => c_2
      refine V.pick [0, 1, 2, 3] (lv' := [(3, .int (nI (((8) * (g)) + (t)))), (0, .ref (o)), (1, .int (nI (g))), (2, .int (nI (t)))]) rfl ?_; exact tail I J (by rw [hh0, rea_0]; exact hs) hmo hr fr.rf fr.rf h9m
    · have h9h : I 9 t = nI h := by rcases hh1 with q | q; exact q; exact absurd q.2 c_2
      refine V.aload_n dX8_harvests_21 rfl rfl ?_
      refine Mg21 rfl dX8_harvests_22 ?_
      refine V.iload_n dX8_harvests_25 rfl rfl ?_
      refine V.dup2_11 dX8_harvests_26 rfl rfl ?_
      refine Ml21 (((8) * (g)) + (t)) rfl (by omega) dX8_harvests_27 ?_
      refine V.el (y := lN (s.1.1)) hs.1 ?_
      refine V.aload_n dX8_harvests_28 rfl rfl ?_
      refine Mg9 rfl dX8_harvests_29 ?_
      refine V.iload_n dX8_harvests_32 rfl rfl ?_
      refine Ml9 (t) rfl (by omega) dX8_harvests_33 ?_
      refine V.ei (y := nI (h)) h9h ?_
      refine V.i2l (v := lN (h)) dX8_harvests_34 (nI_l (by omega)) ?_
      refine V.ladd dX8_harvests_35 ?_
      refine V.el (lN_add _ _) ?_
      refine Ms21 (((8) * (g)) + (t)) rfl (by omega) dX8_harvests_36 ?_
      refine V.aload_n dX8_harvests_37 rfl rfl ?_
      refine Mg9 rfl dX8_harvests_38 ?_
      refine V.iload_n dX8_harvests_41 rfl rfl ?_
      refine V.iconst (v := -1) dX8_harvests_42 (by decide) ?_
      refine Ms9 (t) rfl (by omega) dX8_harvests_43 ?_
      refine V.pick [0, 1, 2, 3] (lv' := [(3, .int (nI (((8) * (g)) + (t)))), (0, .ref (o)), (1, .int (nI (g))), (2, .int (nI (t)))]) rfl ?_; exact tail _ _ ⟨up2_s _ _ _ _, hs.2.1, hs.2.2.1, hs.2.2.2.1, hs.2.2.2.2.1, hs.2.2.2.2.2.1, hs.2.2.2.2.2.2.1, hs.2.2.2.2.2.2.2.1, rowR_fr (fr.up (P := fun k j => k = 9 ∧ j = t) ⟨rfl, rfl⟩) hs.2.2.2.2.2.2.2.2 (by omega) (by intros; omega)⟩ hmo hr (fr.up (Or.inr ⟨hg0, rfl, rfl⟩)) (fr.up ⟨by omega, by omega, rfl⟩) (fun _ => up2_s _ _ _ _)
set_option maxHeartbeats 4000000 in
set_option maxRecDepth 20000 in
theorem c_X8_trades (l : Launch) (G : GG) (o : Nat) (ad : Nat → Nat) (sc : Int32 × Int32 × Int32) (I : Nat → Nat → Int32) (J : Nat → Nat → Int64) (g t r e mo co ke : Nat) (ed : Nat → Nat) (s : ST) (hg : g < 2) (ht : t < 8) (hke : ke = 2 ∨ ke = 3) (hs : slotR I J (8 * g + t) s) (ok : okS r s) (hr : I 8 t = nI r) (hr2 : r ≤ 50000) (he : I 7 t = nI e) (he1 : 1 ≤ e) (he2 : e ≤ 1000) (hmo : I 15 g = nI mo) (hmo2 : mo ≤ 4000) (hco : J 16 g = lN co) (hco2 : co < 2 ^ 60) (hed : ∀ j, j < 8 → I ke j = nI (ed j)) (hed2 : ∀ j, j < 8 → ed j ≤ 9999) : Ct l G yX8_trades cX8_trades 9 none rm_X8_trades [.ref (o), .int (nI (g)), .int (nI (t)), .ref (ad ke)] (mw G o ad sc I J) (fun u : (Nat → Nat → Int32) × (Nat → Nat → Int64) => mw G o ad sc u.1 u.2) (fun u : (Nat → Nat → Int32) × (Nat → Nat → Int64) => none) (fun u : (Nat → Nat → Int32) × (Nat → Nat → Int64) => slotR u.1 u.2 (8 * g + t) (trd e r ed mo co s).2 ∧ u.2 16 g = lN (trd e r ed mo co s).1 ∧ fr (pS (8 * g + t)) I u.1 ∧ fr (fun k j => pX (8 * g + t) k j ∨ (k = 16 ∧ j = g)) J u.2) := by
  refine Ct.of (by decide) (Nat.le_of_ble_eq_true rfl) (fun X A hX => ?_)
  subst hX
  refine V.to (lv' := [(0, .ref (o)), (1, .int (nI (g))), (2, .int (nI (t))), (3, .ref (ad ke))]) (st := []) (pc' := 0) rfl rfl rfl ?_
  have ho1 := ok.2.1
  have ho2 := ok.2.2.1
  have ho3 := ok.2.2.2
  have hp1 := prc_le e s
  have hq0 := hed2 0 (by omega)
  have hq1 := hed2 1 (by omega)
  have hq2 := hed2 2 (by omega)
  have hq3 := hed2 3 (by omega)
  refine V.bipush (v := nI (8)) dX8_trades_0 rfl ?_
  refine V.iload_n dX8_trades_2 rfl rfl ?_
  refine V.imul dX8_trades_3 ?_
  refine V.ei (pk_mul _ _) ?_
  refine V.iload_n dX8_trades_4 rfl rfl ?_
  refine V.iadd dX8_trades_5 ?_
  refine V.ei (nI_add _ _) ?_
  refine V.istore (lv' := [(4, .int (nI (((8) * (g)) + (t)))), (0, .ref (o)), (1, .int (nI (g))), (2, .int (nI (t))), (3, .ref (ad ke))]) dX8_trades_6 (by decide) rfl ?_
  refine V.aload_n dX8_trades_8 rfl rfl ?_
  refine V.iload dX8_trades_9 rfl ?_
  refine V.iload_n dX8_trades_11 rfl rfl ?_
  refine V.callV0 (c_X8_price _ G o ad sc I J (8 * g + t) t e s.1.1 ht (by omega) he he1 he2 hs.1 (by omega)) [] 0 9 rfl rfl rfl rfl (goodV kM_X8_185 kI_X8_price kV_X8_price kN_X8 kC_X8_price) ds_X8_price (by decide) (Nat.le_of_ble_eq_true rfl) dX8_trades_12 (by decide) (fun u hu => ?_)
  refine V.to (lv' := [(4, .int (nI (((8) * (g)) + (t)))), (0, .ref (o)), (1, .int (nI (g))), (2, .int (nI (t))), (3, .ref (ad ke))]) (st := [.long (lN (1000 * e / (s.1.1 + e)))]) (pc' := 15) rfl rfl rfl ?_
  refine V.el (y := lN (prc e s)) rfl ?_
  refine V.lstore (lv' := [(5, .long (lN (prc e s))), (4, .int (nI (((8) * (g)) + (t)))), (0, .ref (o)), (1, .int (nI (g))), (2, .int (nI (t))), (3, .ref (ad ke))]) dX8_trades_15 (by decide) rfl ?_
  refine V.lload dX8_trades_17 rfl ?_
  refine V.aload_n dX8_trades_19 rfl rfl ?_
  refine V.iconst (v := nI (0)) dX8_trades_20 rfl ?_
  refine Mle hke (0) rfl (by omega) dX8_trades_21 ?_
  refine V.ei (y := nI (ed 0)) (hed 0 (by omega)) ?_
  refine V.i2l (v := lN (ed 0)) dX8_trades_22 (nI_l (by omega)) ?_
  refine V.lc_gt (tgt := 135) dX8_trades_23 dX8_trades_24 (by decide) (fun c_1 => ?_) (fun c_1 => ?_)
  · have hbuy : ¬ prc e s ≤ ed 0 := by have := (pk_lLT (by omega) (by omega)).mp c_1; omega
    refine V.lload dX8_trades_135 rfl ?_
    refine V.aload_n dX8_trades_137 rfl rfl ?_
    refine V.iconst (v := nI (2)) dX8_trades_138 rfl ?_
    refine Mle hke (2) rfl (by omega) dX8_trades_139 ?_
    refine V.ei (y := nI (ed 2)) (hed 2 (by omega)) ?_
    refine V.i2l (v := lN (ed 2)) dX8_trades_140 (nI_l (by omega)) ?_
    refine V.lc_lt (tgt := 206) dX8_trades_141 dX8_trades_142 (by decide) (fun c_2 => ?_) (fun c_2 => ?_)
    · have hsel : ¬ ed 2 ≤ prc e s := by have := (pk_lLT (by omega) (by omega)).mp c_2; omega
      exact V.vret (I, J) rfl rfl (by rw [trd, if_neg hbuy, if_neg hsel]; exact ⟨hs, hco, fr.rf, fr.rf⟩) rfl (by decide) (by decide) dX8_trades_206
    · have hsel : ed 2 ≤ prc e s := by
        rcases Nat.lt_or_ge (prc e s) (ed 2) with q | q
        · exact absurd ((pk_lLT (by omega) (by omega)).mpr q) c_2
        · exact q
      refine V.aload_n dX8_trades_145 rfl rfl ?_
      refine V.iconst (v := nI (3)) dX8_trades_146 rfl ?_
      refine Mle hke (3) rfl (by omega) dX8_trades_147 ?_
      refine V.ei (y := nI (ed 3)) (hed 3 (by omega)) ?_
      refine V.i2l (v := lN (ed 3)) dX8_trades_148 (nI_l (by omega)) ?_
      refine V.aload_n dX8_trades_149 rfl rfl ?_
      refine V.iload dX8_trades_150 rfl ?_
      refine V.callV0 (c_X8_trueIn _ G o ad sc I J (8 * g + t) s.2.2 (by omega) hs.2.2.2.2.2.2.2.2 ok.1) [.long (lN (ed 3))] 0 9 rfl rfl rfl rfl (goodV kM_X8_169 kI_X8_trueIn kV_X8_trueIn kN_X8 kC_X8_trueIn) ds_X8_trueIn (by decide) (Nat.le_of_ble_eq_true rfl) dX8_trades_152 (by decide) (fun u hu => ?_)
      refine V.to (lv' := [(5, .long (lN (prc e s))), (4, .int (nI (((8) * (g)) + (t)))), (0, .ref (o)), (1, .int (nI (g))), (2, .int (nI (t))), (3, .ref (ad ke))]) (st := [.long (lN (tsum s.2.2)), .long (lN (ed 3))]) (pc' := 155) rfl rfl rfl ?_
      refine V.callSE (c_X8_least _ G (lN (ed 3)) (lN (tsum s.2.2))) [] rfl (goodS kM_X8_177 kS_X8_least kN_X8 kC_X8_least) ds_X8_least (by decide) (Nat.le_of_ble_eq_true rfl) dX8_trades_155 (by decide) (fun u hu => ?_)
      refine V.to (lv' := [(5, .long (lN (prc e s))), (4, .int (nI (((8) * (g)) + (t)))), (0, .ref (o)), (1, .int (nI (g))), (2, .int (nI (t))), (3, .ref (ad ke))]) (st := [.long (if lN (ed 3) < lN (tsum s.2.2) then lN (ed 3) else lN (tsum s.2.2))]) (pc' := 158) rfl rfl rfl ?_
      refine V.el (leastN (by omega) (by omega)) ?_
      obtain ⟨n, hn⟩ : ∃ n, selN ed s = n := ⟨_, rfl⟩
      have hsn : n ≤ ed 3 ∧ n ≤ tsum s.2.2 := by rw [← hn]; simp only [selN]; omega
      refine V.el (y := lN (n)) (by rw [← hn]; rfl) ?_
      refine V.lstore (lv' := [(7, .long (lN (n))), (5, .long (lN (prc e s))), (4, .int (nI (((8) * (g)) + (t)))), (0, .ref (o)), (1, .int (nI (g))), (2, .int (nI (t))), (3, .ref (ad ke))]) dX8_trades_158 (by decide) rfl ?_
      refine V.aload_n dX8_trades_160 rfl rfl ?_
      refine V.iload dX8_trades_161 rfl ?_
      refine V.lload dX8_trades_163 rfl ?_
      refine V.callV0 (c_X8_takes _ G o ad sc I J (8 * g + t) n s.2.2 (by omega) hs.2.2.2.2.2.2.2.2 ok.1.1 (fun q hq => Nat.le_trans (tsum_mem hq) ok.1.2.1) (by omega)) [] 0 9 rfl rfl rfl rfl (goodV kM_X8_188 kI_X8_takes kV_X8_takes kN_X8 kC_X8_takes) ds_X8_takes (by decide) (Nat.le_of_ble_eq_true rfl) dX8_trades_165 (by decide) (fun u hu => ?_)
      rw [hs.2.2.2.2.2.2.2.1] at hu
      refine V.wd (ws' := mw G o ad sc u (up2 J 23 (8 * g + t) (tk n s.2.2 s.2.1.2.2.2.2.2).2)) (by rw [hs.2.2.2.2.2.2.2.1]) ?_
      refine V.to (lv' := [(7, .long (lN (n))), (5, .long (lN (prc e s))), (4, .int (nI (((8) * (g)) + (t)))), (0, .ref (o)), (1, .int (nI (g))), (2, .int (nI (t))), (3, .ref (ad ke))]) (st := []) (pc' := 168) rfl rfl rfl ?_
      refine V.aload_n dX8_trades_168 rfl rfl ?_
      refine Mg16 rfl dX8_trades_169 ?_
      refine V.iload_n dX8_trades_172 rfl rfl ?_
      refine V.dup2_11 dX8_trades_173 rfl rfl ?_
      refine Ml16 (g) rfl (by omega) dX8_trades_174 ?_
      refine V.el (y := lN (co)) hco ?_
      refine V.lload dX8_trades_175 rfl ?_
      refine V.lload dX8_trades_177 rfl ?_
      refine V.lmul dX8_trades_179 ?_
      refine V.el (lN_mul _ _) ?_
      refine V.ladd dX8_trades_180 ?_
      refine V.el (lN_add _ _) ?_
      refine Ms16 (g) rfl (by omega) dX8_trades_181 ?_
      refine V.aload_n dX8_trades_182 rfl rfl ?_
      refine Mg21 rfl dX8_trades_183 ?_
      refine V.iload dX8_trades_186 rfl ?_
      refine V.dup2_11 dX8_trades_188 rfl rfl ?_
      refine Ml21 (((8) * (g)) + (t)) rfl (by omega) dX8_trades_189 ?_
      refine V.el (y := lN (s.1.1)) hs.1 ?_
      refine V.lload dX8_trades_190 rfl ?_
      refine V.ladd dX8_trades_192 ?_
      refine V.el (lN_add _ _) ?_
      refine Ms21 (((8) * (g)) + (t)) rfl (by omega) dX8_trades_193 ?_
      refine V.aload_n dX8_trades_194 rfl rfl ?_
      refine Mg28 rfl dX8_trades_195 ?_
      refine V.iload dX8_trades_198 rfl ?_
      refine V.dup2_11 dX8_trades_200 rfl rfl ?_
      refine Ml28 (((8) * (g)) + (t)) rfl (by omega) dX8_trades_201 ?_
      refine V.el (y := s.2.1.2.2.2.1) hs.2.2.2.2.2.1 ?_
      refine V.lload dX8_trades_202 rfl ?_
      refine V.ladd dX8_trades_204 ?_
      refine Ms28 (((8) * (g)) + (t)) rfl (by omega) dX8_trades_205 ?_
      exact V.vret (u, (up2 (up2 (up2 (up2 J 23 (8 * g + t) (tk n s.2.2 s.2.1.2.2.2.2.2).2) 16 (g) (lN ((co) + ((n) * (prc e s))))) 21 (((8) * (g)) + (t)) (lN ((s.1.1) + (n)))) 28 (((8) * (g)) + (t)) ((s.2.1.2.2.2.1) + (lN (n))))) rfl rfl (by rw [show trd e r ed mo co s = (co + n * prc e s, ((s.1.1 + n, s.1.2), (s.2.1.1, s.2.1.2.1, s.2.1.2.2.1, s.2.1.2.2.2.1 + lN n, s.2.1.2.2.2.2.1, (tk n s.2.2 s.2.1.2.2.2.2.2).2), (tk n s.2.2 s.2.1.2.2.2.2.2).1)) by rw [trd, if_neg hbuy, if_pos hsel, hn]; rfl]; exact ⟨⟨(by simp [up2]), hs.2.1, hs.2.2.1, hs.2.2.2.1, hs.2.2.2.2.1, (by simp [up2]), hs.2.2.2.2.2.2.1, (by simp [up2]), hu.1⟩, by simp [up2], hu.2, (fr.up (Or.inl ⟨by omega, by omega, rfl⟩)).tr (((fr.up (Or.inr ⟨rfl, rfl⟩)).tr (fr.up (Or.inl ⟨by omega, by omega, rfl⟩))).tr (fr.up (Or.inl ⟨by omega, by omega, rfl⟩)))⟩) rfl (by decide) (by decide) dX8_trades_206
  · have hbuy : prc e s ≤ ed 0 := by
      rcases Nat.lt_or_ge (ed 0) (prc e s) with q | q
      · exact absurd ((pk_lLT (by omega) (by omega)).mpr q) c_1
      · exact q
    refine V.aload_n dX8_trades_27 rfl rfl ?_
    refine V.iconst (v := nI (1)) dX8_trades_28 rfl ?_
    refine Mle hke (1) rfl (by omega) dX8_trades_29 ?_
    refine V.ei (y := nI (ed 1)) (hed 1 (by omega)) ?_
    refine V.i2l (v := lN (ed 1)) dX8_trades_30 (nI_l (by omega)) ?_
    refine V.aload_n dX8_trades_31 rfl rfl ?_
    refine V.iload_n dX8_trades_32 rfl rfl ?_
    refine V.iload_n dX8_trades_33 rfl rfl ?_
    refine V.callV0 (c_X8_space _ G o ad sc I J g t r s.2.2 ht (by omega) hr hr2 hs.2.2.2.2.2.2.2.2 ok.1) [.long (lN (ed 1))] 0 9 rfl rfl rfl rfl (goodV kM_X8_173 kI_X8_space kV_X8_space kN_X8 kC_X8_space) ds_X8_space (by decide) (Nat.le_of_ble_eq_true rfl) dX8_trades_34 (by decide) (fun u hu => ?_)
    refine V.to (lv' := [(5, .long (lN (prc e s))), (4, .int (nI (((8) * (g)) + (t)))), (0, .ref (o)), (1, .int (nI (g))), (2, .int (nI (t))), (3, .ref (ad ke))]) (st := [.long (lN (r - tsum s.2.2)), .long (lN (ed 1))]) (pc' := 37) rfl rfl rfl ?_
    refine V.aload_n dX8_trades_37 rfl rfl ?_
    refine Mg21 rfl dX8_trades_38 ?_
    refine V.iload dX8_trades_41 rfl ?_
    refine Ml21 (((8) * (g)) + (t)) rfl (by omega) dX8_trades_43 ?_
    refine V.el (y := lN (s.1.1)) hs.1 ?_
    refine V.callSE (c_X8_least _ G (lN (r - tsum s.2.2)) (lN (s.1.1))) [.long (lN (ed 1))] rfl (goodS kM_X8_177 kS_X8_least kN_X8 kC_X8_least) ds_X8_least (by decide) (Nat.le_of_ble_eq_true rfl) dX8_trades_44 (by decide) (fun u hu => ?_)
    refine V.to (lv' := [(5, .long (lN (prc e s))), (4, .int (nI (((8) * (g)) + (t)))), (0, .ref (o)), (1, .int (nI (g))), (2, .int (nI (t))), (3, .ref (ad ke))]) (st := [.long (if lN (r - tsum s.2.2) < lN (s.1.1) then lN (r - tsum s.2.2) else lN (s.1.1)), .long (lN (ed 1))]) (pc' := 47) rfl rfl rfl ?_
    refine V.el (leastN (by omega) (by omega)) ?_
    refine V.callSE (c_X8_least _ G (lN (ed 1)) (lN (min (r - tsum s.2.2) (s.1.1)))) [] rfl (goodS kM_X8_177 kS_X8_least kN_X8 kC_X8_least) ds_X8_least (by decide) (Nat.le_of_ble_eq_true rfl) dX8_trades_47 (by decide) (fun u hu => ?_)
    refine V.to (lv' := [(5, .long (lN (prc e s))), (4, .int (nI (((8) * (g)) + (t)))), (0, .ref (o)), (1, .int (nI (g))), (2, .int (nI (t))), (3, .ref (ad ke))]) (st := [.long (if lN (ed 1) < lN (min (r - tsum s.2.2) (s.1.1)) then lN (ed 1) else lN (min (r - tsum s.2.2) (s.1.1)))]) (pc' := 50) rfl rfl rfl ?_
    refine V.el (leastN (by omega) (by omega)) ?_
    refine V.lstore (lv' := [(7, .long (lN (min (ed 1) (min (r - tsum s.2.2) (s.1.1))))), (5, .long (lN (prc e s))), (4, .int (nI (((8) * (g)) + (t)))), (0, .ref (o)), (1, .int (nI (g))), (2, .int (nI (t))), (3, .ref (ad ke))]) dX8_trades_50 (by decide) rfl ?_
    refine V.lload dX8_trades_52 rfl ?_
    refine V.lconst (v := lN 0) dX8_trades_54 rfl ?_
    refine V.lc_ne (tgt := 64) dX8_trades_55 dX8_trades_56 (by decide) (fun c_3 => ?_) (fun c_3 => ?_)
    · have hp0 : ¬ prc e s = 0 := fun q => c_3 (by rw [q])
      refine V.lload dX8_trades_64 rfl ?_
      refine V.aload_n dX8_trades_66 rfl rfl ?_
      refine Mg16 rfl dX8_trades_67 ?_
      refine V.iload_n dX8_trades_70 rfl rfl ?_
      refine Ml16 (g) rfl (by omega) dX8_trades_71 ?_
      refine V.el (y := lN (co)) hco ?_
      refine V.lload dX8_trades_72 rfl ?_
      refine V.ldiv dX8_trades_74 (fun q => hp0 ((pk_lEQ (b := 0) (by omega) (by omega)).mp q)) ?_
      refine V.el (y := lN (co / prc e s)) (pk_lDiv (by omega) (by omega) (by omega)) ?_
      have hdv := Nat.div_le_self co (prc e s)
      refine V.callSE (c_X8_least _ G (lN (min (ed 1) (min (r - tsum s.2.2) (s.1.1)))) (lN (co / prc e s))) [] rfl (goodS kM_X8_177 kS_X8_least kN_X8 kC_X8_least) ds_X8_least (by decide) (Nat.le_of_ble_eq_true rfl) dX8_trades_75 (by decide) (fun u hu => ?_)
      refine V.to (lv' := [(7, .long (lN (min (ed 1) (min (r - tsum s.2.2) (s.1.1))))), (5, .long (lN (prc e s))), (4, .int (nI (((8) * (g)) + (t)))), (0, .ref (o)), (1, .int (nI (g))), (2, .int (nI (t))), (3, .ref (ad ke))]) (st := [.long (if lN (min (ed 1) (min (r - tsum s.2.2) (s.1.1))) < lN (co / prc e s) then lN (min (ed 1) (min (r - tsum s.2.2) (s.1.1))) else lN (co / prc e s))]) (pc' := 78) rfl rfl rfl ?_
      refine V.el (leastN (by omega) (by omega)) ?_
      refine V.el (y := lN (buyN e r ed co s)) (by rw [buyN, if_neg hp0]; rfl) ?_
      have hb := buy_le e r ed co s
      have hbc := buy_cost e r ed co s
      obtain ⟨n, hn⟩ : ∃ n, buyN e r ed co s = n := ⟨_, rfl⟩
      rw [hn] at hb hbc
      refine V.el (y := lN (n)) (by rw [hn]) ?_
      refine V.lstore (lv' := [(7, .long (lN (n))), (5, .long (lN (prc e s))), (4, .int (nI (((8) * (g)) + (t)))), (0, .ref (o)), (1, .int (nI (g))), (2, .int (nI (t))), (3, .ref (ad ke))]) dX8_trades_78 (by decide) rfl ?_
      refine V.aload_n dX8_trades_80 rfl rfl ?_
      refine Mg16 rfl dX8_trades_81 ?_
      refine V.iload_n dX8_trades_84 rfl rfl ?_
      refine V.dup2_11 dX8_trades_85 rfl rfl ?_
      refine Ml16 (g) rfl (by omega) dX8_trades_86 ?_
      refine V.el (y := lN (co)) hco ?_
      refine V.lload dX8_trades_87 rfl ?_
      refine V.lload dX8_trades_89 rfl ?_
      refine V.lmul dX8_trades_91 ?_
      refine V.el (lN_mul _ _) ?_
      refine V.lsub dX8_trades_92 ?_
      refine V.el (y := lN (co - (n) * (prc e s))) (lN_sub (by omega)) ?_
      refine Ms16 (g) rfl (by omega) dX8_trades_93 ?_
      refine V.aload_n dX8_trades_94 rfl rfl ?_
      refine Mg21 rfl dX8_trades_95 ?_
      refine V.iload dX8_trades_98 rfl ?_
      refine V.dup2_11 dX8_trades_100 rfl rfl ?_
      refine Ml21 (((8) * (g)) + (t)) rfl (by omega) dX8_trades_101 ?_
      refine V.el (y := lN (s.1.1)) hs.1 ?_
      refine V.lload dX8_trades_102 rfl ?_
      refine V.lsub dX8_trades_104 ?_
      refine V.el (y := lN (s.1.1 - n)) (lN_sub (by omega)) ?_
      refine Ms21 (((8) * (g)) + (t)) rfl (by omega) dX8_trades_105 ?_
      refine V.aload_n dX8_trades_106 rfl rfl ?_
      refine Mg27 rfl dX8_trades_107 ?_
      refine V.iload dX8_trades_110 rfl ?_
      refine V.dup2_11 dX8_trades_112 rfl rfl ?_
      refine Ml27 (((8) * (g)) + (t)) rfl (by omega) dX8_trades_113 ?_
      refine V.el (y := s.2.1.2.2.1) hs.2.2.2.2.1 ?_
      refine V.lload dX8_trades_114 rfl ?_
      refine V.ladd dX8_trades_116 ?_
      refine Ms27 (((8) * (g)) + (t)) rfl (by omega) dX8_trades_117 ?_
      refine V.aload_n dX8_trades_118 rfl rfl ?_
      refine V.iload dX8_trades_119 rfl ?_
      refine V.lload dX8_trades_121 rfl ?_
      refine V.aload_n dX8_trades_123 rfl rfl ?_
      refine Mg15 rfl dX8_trades_124 ?_
      refine V.iload_n dX8_trades_127 rfl rfl ?_
      refine Ml15 (g) rfl (by omega) dX8_trades_128 ?_
      refine V.ei (y := nI (mo)) hmo ?_
      refine V.callV0 (c_X8_comes _ G o ad sc I (up2 (up2 (up2 J 16 (g) (lN (co - (n) * (prc e s)))) 21 (((8) * (g)) + (t)) (lN (s.1.1 - n))) 27 (((8) * (g)) + (t)) ((s.2.1.2.2.1) + (lN (n)))) (8 * g + t) n mo s.2.2 (by omega) hs.2.2.2.2.2.2.2.2 ok.1.1 (by omega) ok.1.2.2 hmo2) [] 0 9 rfl rfl rfl rfl (goodV kM_X8_181 kI_X8_comes kV_X8_comes kN_X8 kC_X8_comes) ds_X8_comes (by decide) (Nat.le_of_ble_eq_true rfl) dX8_trades_129 (by decide) (fun u hu => ?_)
      refine V.to (lv' := [(7, .long (lN (n))), (5, .long (lN (prc e s))), (4, .int (nI (((8) * (g)) + (t)))), (0, .ref (o)), (1, .int (nI (g))), (2, .int (nI (t))), (3, .ref (ad ke))]) (st := []) (pc' := 132) rfl rfl rfl ?_
      refine V.goto (tgt := 206) dX8_trades_132 (by decide) ?_
      exact V.vret (u, (up2 (up2 (up2 J 16 (g) (lN (co - (n) * (prc e s)))) 21 (((8) * (g)) + (t)) (lN (s.1.1 - n))) 27 (((8) * (g)) + (t)) ((s.2.1.2.2.1) + (lN (n))))) rfl rfl (by rw [show trd e r ed mo co s = (co - n * prc e s, ((s.1.1 - n, s.1.2), (s.2.1.1, s.2.1.2.1, s.2.1.2.2.1 + lN n, s.2.1.2.2.2.1, s.2.1.2.2.2.2.1, s.2.1.2.2.2.2.2), pt n mo s.2.2)) by rw [trd, if_pos hbuy, hn]; rfl]; exact ⟨⟨(by simp [up2]), hs.2.1, hs.2.2.1, hs.2.2.2.1, (by simp [up2]), hs.2.2.2.2.2.1, hs.2.2.2.2.2.2.1, hs.2.2.2.2.2.2.2.1, hu.1⟩, by simp [up2], hu.2, ((fr.up (Or.inr ⟨rfl, rfl⟩)).tr (fr.up (Or.inl ⟨by omega, by omega, rfl⟩))).tr (fr.up (Or.inl ⟨by omega, by omega, rfl⟩))⟩) rfl (by decide) (by decide) dX8_trades_206
    · have hp0 : prc e s = 0 := (pk_lEQ (b := 0) (by omega) (by omega)).mp c_3
      refine V.lload dX8_trades_59 rfl ?_
      refine V.el (y := lN (buyN e r ed co s)) (by rw [buyN, if_pos hp0]; rfl) ?_
      have hb := buy_le e r ed co s
      have hbc := buy_cost e r ed co s
      obtain ⟨n, hn⟩ : ∃ n, buyN e r ed co s = n := ⟨_, rfl⟩
      rw [hn] at hb hbc
      refine V.el (y := lN (n)) (by rw [hn]) ?_
      skip
      refine V.goto (tgt := 78) dX8_trades_61 (by decide) ?_
      refine V.lstore (lv' := [(7, .long (lN (n))), (5, .long (lN (prc e s))), (4, .int (nI (((8) * (g)) + (t)))), (0, .ref (o)), (1, .int (nI (g))), (2, .int (nI (t))), (3, .ref (ad ke))]) dX8_trades_78 (by decide) rfl ?_
      refine V.aload_n dX8_trades_80 rfl rfl ?_
      refine Mg16 rfl dX8_trades_81 ?_
      refine V.iload_n dX8_trades_84 rfl rfl ?_
      refine V.dup2_11 dX8_trades_85 rfl rfl ?_
      refine Ml16 (g) rfl (by omega) dX8_trades_86 ?_
      refine V.el (y := lN (co)) hco ?_
      refine V.lload dX8_trades_87 rfl ?_
      refine V.lload dX8_trades_89 rfl ?_
      refine V.lmul dX8_trades_91 ?_
      refine V.el (lN_mul _ _) ?_
      refine V.lsub dX8_trades_92 ?_
      refine V.el (y := lN (co - (n) * (prc e s))) (lN_sub (by omega)) ?_
      refine Ms16 (g) rfl (by omega) dX8_trades_93 ?_
      refine V.aload_n dX8_trades_94 rfl rfl ?_
      refine Mg21 rfl dX8_trades_95 ?_
      refine V.iload dX8_trades_98 rfl ?_
      refine V.dup2_11 dX8_trades_100 rfl rfl ?_
      refine Ml21 (((8) * (g)) + (t)) rfl (by omega) dX8_trades_101 ?_
      refine V.el (y := lN (s.1.1)) hs.1 ?_
      refine V.lload dX8_trades_102 rfl ?_
      refine V.lsub dX8_trades_104 ?_
      refine V.el (y := lN (s.1.1 - n)) (lN_sub (by omega)) ?_
      refine Ms21 (((8) * (g)) + (t)) rfl (by omega) dX8_trades_105 ?_
      refine V.aload_n dX8_trades_106 rfl rfl ?_
      refine Mg27 rfl dX8_trades_107 ?_
      refine V.iload dX8_trades_110 rfl ?_
      refine V.dup2_11 dX8_trades_112 rfl rfl ?_
      refine Ml27 (((8) * (g)) + (t)) rfl (by omega) dX8_trades_113 ?_
      refine V.el (y := s.2.1.2.2.1) hs.2.2.2.2.1 ?_
      refine V.lload dX8_trades_114 rfl ?_
      refine V.ladd dX8_trades_116 ?_
      refine Ms27 (((8) * (g)) + (t)) rfl (by omega) dX8_trades_117 ?_
      refine V.aload_n dX8_trades_118 rfl rfl ?_
      refine V.iload dX8_trades_119 rfl ?_
      refine V.lload dX8_trades_121 rfl ?_
      refine V.aload_n dX8_trades_123 rfl rfl ?_
      refine Mg15 rfl dX8_trades_124 ?_
      refine V.iload_n dX8_trades_127 rfl rfl ?_
      refine Ml15 (g) rfl (by omega) dX8_trades_128 ?_
      refine V.ei (y := nI (mo)) hmo ?_
      refine V.callV0 (c_X8_comes _ G o ad sc I (up2 (up2 (up2 J 16 (g) (lN (co - (n) * (prc e s)))) 21 (((8) * (g)) + (t)) (lN (s.1.1 - n))) 27 (((8) * (g)) + (t)) ((s.2.1.2.2.1) + (lN (n)))) (8 * g + t) n mo s.2.2 (by omega) hs.2.2.2.2.2.2.2.2 ok.1.1 (by omega) ok.1.2.2 hmo2) [] 0 9 rfl rfl rfl rfl (goodV kM_X8_181 kI_X8_comes kV_X8_comes kN_X8 kC_X8_comes) ds_X8_comes (by decide) (Nat.le_of_ble_eq_true rfl) dX8_trades_129 (by decide) (fun u hu => ?_)
      refine V.to (lv' := [(7, .long (lN (n))), (5, .long (lN (prc e s))), (4, .int (nI (((8) * (g)) + (t)))), (0, .ref (o)), (1, .int (nI (g))), (2, .int (nI (t))), (3, .ref (ad ke))]) (st := []) (pc' := 132) rfl rfl rfl ?_
      refine V.goto (tgt := 206) dX8_trades_132 (by decide) ?_
      exact V.vret (u, (up2 (up2 (up2 J 16 (g) (lN (co - (n) * (prc e s)))) 21 (((8) * (g)) + (t)) (lN (s.1.1 - n))) 27 (((8) * (g)) + (t)) ((s.2.1.2.2.1) + (lN (n))))) rfl rfl (by rw [show trd e r ed mo co s = (co - n * prc e s, ((s.1.1 - n, s.1.2), (s.2.1.1, s.2.1.2.1, s.2.1.2.2.1 + lN n, s.2.1.2.2.2.1, s.2.1.2.2.2.2.1, s.2.1.2.2.2.2.2), pt n mo s.2.2)) by rw [trd, if_pos hbuy, hn]; rfl]; exact ⟨⟨(by simp [up2]), hs.2.1, hs.2.2.1, hs.2.2.2.1, (by simp [up2]), hs.2.2.2.2.2.1, hs.2.2.2.2.2.2.1, hs.2.2.2.2.2.2.2.1, hu.1⟩, by simp [up2], hu.2, ((fr.up (Or.inr ⟨rfl, rfl⟩)).tr (fr.up (Or.inl ⟨by omega, by omega, rfl⟩))).tr (fr.up (Or.inl ⟨by omega, by omega, rfl⟩))⟩) rfl (by decide) (by decide) dX8_trades_206
set_option maxHeartbeats 4000000 in
set_option maxRecDepth 20000 in
theorem c_X8_turns (l : Launch) (G : GG) (o : Nat) (ad : Nat → Nat) (sc : Int32 × Int32 × Int32) (I : Nat → Nat → Int32) (J : Nat → Nat → Int64) (x r mo oo : Nat) (s : ST) (hx : x < 16) (hs : slotR I J x s) (ok : okS r s) (hmo2 : mo ≤ 4000) (ho : 1 ≤ oo) (ho2 : oo ≤ 9999) : Ct l G yX8_turns cX8_turns 6 none rm_X8_turns [.ref (o), .int (nI (x)), .int (nI (mo)), .int (nI (oo))] (mw G o ad sc I J) (fun u : (Nat → Nat → Int32) × (Nat → Nat → Int64) => mw G o ad sc u.1 u.2) (fun u : (Nat → Nat → Int32) × (Nat → Nat → Int64) => none) (fun u : (Nat → Nat → Int32) × (Nat → Nat → Int64) => slotR u.1 u.2 x (trn oo mo s) ∧ fr (pS x) I u.1 ∧ fr (pX x) J u.2) := by
  refine Ct.of (by decide) (Nat.le_of_ble_eq_true rfl) (fun X A hX => ?_)
  subst hX
  refine V.to (lv' := [(0, .ref (o)), (1, .int (nI (x))), (2, .int (nI (mo))), (3, .int (nI (oo)))]) (st := []) (pc' := 0) rfl rfl rfl ?_
  have hk1 := ok.2.1
  have hk2 := ok.2.2.1
  have hk3 := ok.1.2.1
  refine V.aload_n dX8_turns_0 rfl rfl ?_
  refine V.iload_n dX8_turns_1 rfl rfl ?_
  refine V.callV0 (c_X8_trueIn _ G o ad sc I J x s.2.2 hx hs.2.2.2.2.2.2.2.2 ok.1) [] 0 9 rfl rfl rfl rfl (goodV kM_X8_169 kI_X8_trueIn kV_X8_trueIn kN_X8 kC_X8_trueIn) ds_X8_trueIn (by decide) (Nat.le_of_ble_eq_true rfl) dX8_turns_2 (by decide) (fun u hu => ?_)
  refine V.to (lv' := [(0, .ref (o)), (1, .int (nI (x))), (2, .int (nI (mo))), (3, .int (nI (oo)))]) (st := [.long (lN (tsum s.2.2))]) (pc' := 5) rfl rfl rfl ?_
  refine V.iload_n dX8_turns_5 rfl rfl ?_
  refine V.i2l (v := lN (oo)) dX8_turns_6 (nI_l (by omega)) ?_
  refine V.ladd dX8_turns_7 ?_
  refine V.el (lN_add _ _) ?_
  refine V.lconst (v := lN 1) dX8_turns_8 rfl ?_
  refine V.lsub dX8_turns_9 ?_
  refine V.el (y := lN (tsum s.2.2 + oo - 1)) (lN_sub (by omega)) ?_
  refine V.iload_n dX8_turns_10 rfl rfl ?_
  refine V.i2l (v := lN (oo)) dX8_turns_11 (nI_l (by omega)) ?_
  refine V.ldiv dX8_turns_12 (fun q => by have := (pk_lEQ (b := 0) (by omega) (by omega)).mp q; omega) ?_
  refine V.el (y := lN ((tsum s.2.2 + oo - 1) / oo)) (pk_lDiv (by omega) (by omega) (by omega)) ?_
  refine V.aload_n dX8_turns_13 rfl rfl ?_
  refine Mg21 rfl dX8_turns_14 ?_
  refine V.iload_n dX8_turns_17 rfl rfl ?_
  refine Ml21 (x) rfl (by omega) dX8_turns_18 ?_
  refine V.el (y := lN (s.1.1)) hs.1 ?_
  have hdv := Nat.div_le_self (tsum s.2.2 + oo - 1) oo
  refine V.callSE (c_X8_least _ G (lN ((tsum s.2.2 + oo - 1) / oo)) (lN (s.1.1))) [] rfl (goodS kM_X8_177 kS_X8_least kN_X8 kC_X8_least) ds_X8_least (by decide) (Nat.le_of_ble_eq_true rfl) dX8_turns_19 (by decide) (fun u hu => ?_)
  refine V.to (lv' := [(0, .ref (o)), (1, .int (nI (x))), (2, .int (nI (mo))), (3, .int (nI (oo)))]) (st := [.long (if lN ((tsum s.2.2 + oo - 1) / oo) < lN (s.1.1) then lN ((tsum s.2.2 + oo - 1) / oo) else lN (s.1.1))]) (pc' := 22) rfl rfl rfl ?_
  refine V.el (leastN (by omega) (by omega)) ?_
  obtain ⟨n, hn⟩ : ∃ n, trnN oo s = n := ⟨_, rfl⟩
  have hsn : n ≤ 100000 := by rw [← hn]; simp only [trnN]; have := Nat.div_le_self (tsum s.2.2 + oo - 1) oo; omega
  refine V.el (y := lN (n)) (by rw [← hn]; rfl) ?_
  refine V.lstore (lv' := [(4, .long (lN (n))), (0, .ref (o)), (1, .int (nI (x))), (2, .int (nI (mo))), (3, .int (nI (oo)))]) dX8_turns_22 (by decide) rfl ?_
  refine V.aload_n dX8_turns_24 rfl rfl ?_
  refine V.iload_n dX8_turns_25 rfl rfl ?_
  refine V.lload dX8_turns_26 rfl ?_
  refine V.callV0 (c_X8_takes _ G o ad sc I J x n s.2.2 hx hs.2.2.2.2.2.2.2.2 ok.1.1 (fun q hq => Nat.le_trans (tsum_mem hq) ok.1.2.1) (by omega)) [] 0 9 rfl rfl rfl rfl (goodV kM_X8_188 kI_X8_takes kV_X8_takes kN_X8 kC_X8_takes) ds_X8_takes (by decide) (Nat.le_of_ble_eq_true rfl) dX8_turns_28 (by decide) (fun u hu => ?_)
  rw [hs.2.2.2.2.2.2.2.1] at hu
  refine V.wd (ws' := mw G o ad sc u (up2 J 23 x (tk n s.2.2 s.2.1.2.2.2.2.2).2)) (by rw [hs.2.2.2.2.2.2.2.1]) ?_
  refine V.to (lv' := [(4, .long (lN (n))), (0, .ref (o)), (1, .int (nI (x))), (2, .int (nI (mo))), (3, .int (nI (oo)))]) (st := []) (pc' := 31) rfl rfl rfl ?_
  refine V.aload_n dX8_turns_31 rfl rfl ?_
  refine V.iload_n dX8_turns_32 rfl rfl ?_
  refine V.lload dX8_turns_33 rfl ?_
  refine V.iload_n dX8_turns_35 rfl rfl ?_
  refine V.callV0 (c_X8_comes _ G o ad sc u (up2 J 23 x (tk n s.2.2 s.2.1.2.2.2.2.2).2) x n mo (tk n s.2.2 s.2.1.2.2.2.2.2).1 hx hu.1 (Nat.le_trans (tk_len _ _ _) ok.1.1) (by omega) (tk_mo (P := fun q => q ≤ 4000) _ _ _ ok.1.2.2) hmo2) [] 0 9 rfl rfl rfl rfl (goodV kM_X8_181 kI_X8_comes kV_X8_comes kN_X8 kC_X8_comes) ds_X8_comes (by decide) (Nat.le_of_ble_eq_true rfl) dX8_turns_36 (by decide) (fun u2 hu2 => ?_)
  refine V.to (lv' := [(4, .long (lN (n))), (0, .ref (o)), (1, .int (nI (x))), (2, .int (nI (mo))), (3, .int (nI (oo)))]) (st := []) (pc' := 39) rfl rfl rfl ?_
  exact V.vret (u2, (up2 J 23 x (tk n s.2.2 s.2.1.2.2.2.2.2).2)) rfl rfl (by rw [show trn oo mo s = (s.1, (s.2.1.1, s.2.1.2.1, s.2.1.2.2.1, s.2.1.2.2.2.1, s.2.1.2.2.2.2.1, (tk n s.2.2 s.2.1.2.2.2.2.2).2), pt n mo (tk n s.2.2 s.2.1.2.2.2.2.2).1) by rw [trn, hn]]; exact ⟨⟨hs.1, hs.2.1, hs.2.2.1, hs.2.2.2.1, hs.2.2.2.2.1, hs.2.2.2.2.2.1, hs.2.2.2.2.2.2.1, (by simp [up2]), hu2.1⟩, hu.2.tr hu2.2, fr.up ⟨by omega, by omega, rfl⟩⟩) rfl (by decide) (by decide) dX8_turns_39
-- SPOILS
set_option maxHeartbeats 4000000 in
set_option maxRecDepth 20000 in
theorem c_X8_spoils (l : Launch) (G : GG) (o : Nat) (ad : Nat → Nat) (sc : Int32 × Int32 × Int32) (I : Nat → Nat → Int32) (J : Nat → Nat → Int64) (x r mo ke : Nat) (ed : Nat → Nat) (s : ST) (hx : x < 16) (hke : ke = 2 ∨ ke = 3) (hs : slotR I J x s) (ok : okS r s) (hmo2 : mo ≤ 4000) (hmo3 : ∀ l ∈ s.2.2, l.1 ≤ mo) (hed : ∀ j, j < 8 → I ke j = nI (ed j)) (hed2 : ∀ j, j < 8 → ed j ≤ 9999) (hp : ed 6 ≤ 100) : Ct l G yX8_spoils cX8_spoils 7 none rm_X8_spoils [.ref (o), .int (nI (x)), .int (nI (mo)), .ref (ad ke)] (mw G o ad sc I J) (fun u : (Nat → Nat → Int32) × (Nat → Nat → Int64) => mw G o ad sc u.1 u.2) (fun u : (Nat → Nat → Int32) × (Nat → Nat → Int64) => none) (fun u : (Nat → Nat → Int32) × (Nat → Nat → Int64) => slotR u.1 u.2 x (spo mo (ed 5) (ed 6) s) ∧ fr (pS x) I u.1 ∧ fr (pX x) J u.2) := by
  refine Ct.of (by decide) (Nat.le_of_ble_eq_true rfl) (fun X A hX => ?_)
  subst hX
  refine V.to (lv' := [(0, .ref (o)), (1, .int (nI (x))), (2, .int (nI (mo))), (3, .ref (ad ke))]) (st := []) (pc' := 0) rfl rfl rfl ?_
  have hk1 := ok.2.1
  have hk3 := ok.1.2.1
  have hk4 := ok.1.1
  have hq5 := hed2 5 (by omega)
  have jsp : ∀ (k w : Nat) (f1 y : Int64), up2 (up2 (up2 (up2 J 25 x (J 25 x + lN k)) 23 x f1) 25 x (J 25 x + lN k + lN w)) 23 x ((up2 (up2 (up2 J 25 x (J 25 x + lN k)) 23 x f1) 25 x (J 25 x + lN k + lN w)) 23 x + y) = up2 (up2 J 25 x (J 25 x + lN (k + w))) 23 x (f1 + y) := by
    intro k w f1 y; rw [Int64.add_assoc, lN_add]; funext a b; by_cases h1 : a = 23 <;> by_cases h2 : a = 25 <;> by_cases h3 : b = x <;> simp [up2, h1, h2, h3] <;> omega
  have jsp2 : ∀ (k w : Nat) (f1 : Int64), up2 (up2 (up2 J 25 x (J 25 x + lN k)) 23 x f1) 25 x (J 25 x + lN k + lN w) = up2 (up2 J 25 x (J 25 x + lN (k + w))) 23 x f1 := by
    intro k w f1; rw [Int64.add_assoc, lN_add]; funext a b; by_cases h1 : a = 23 <;> by_cases h2 : a = 25 <;> by_cases h3 : b = x <;> simp [up2, h1, h2, h3] <;> omega
  have loop : ∀ (d : Nat) (D r1 : List Lt) (I1 : Nat → Nat → Int32) (f1 : Int64) (k : Nat), r1.length < d → rowR I1 x (D ++ r1) → (D ++ r1).length ≤ 40 → (∀ l ∈ D ++ r1, l.1 ≤ mo ∧ l.2.2.1 ≤ 50000) → (D ++ (sp mo (ed 5) (ed 6) r1 f1 k).1, (sp mo (ed 5) (ed 6) r1 f1 k).2) = sp mo (ed 5) (ed 6) s.2.2 s.2.1.2.2.2.2.2 0 → fr (pS x) I I1 → V G X yX8_spoils cX8_spoils 7 none rm_X8_spoils A (MZ G X rm_X8_spoils A (fun u : (Nat → Nat → Int32) × (Nat → Nat → Int64) => mw G o ad sc u.1 u.2) (fun u : (Nat → Nat → Int32) × (Nat → Nat → Int64) => none) (fun u : (Nat → Nat → Int32) × (Nat → Nat → Int64) => slotR u.1 u.2 x (spo mo (ed 5) (ed 6) s) ∧ fr (pS x) I u.1 ∧ fr (pX x) J u.2)) 0 0 (mw G o ad sc I1 (up2 (up2 J 25 x (J 25 x + lN k)) 23 x f1)) [(4, .int (nI (D.length))), (0, .ref (o)), (1, .int (nI (x))), (2, .int (nI (mo))), (3, .ref (ad ke))] 3 [] := by
    intro d
    induction d with
    | zero => intro D r1 I1 f1 k hd; exact absurd hd (Nat.not_lt_zero _)
    | succ d ih =>
      intro D r1 I1 f1 k hd hr hl40 hmr hsp hfr
      have he5 : I1 ke 5 = nI (ed 5) := by rw [hfr ke 5 (by simp [pS]; omega)]; exact hed 5 (by omega)
      have he6 : I1 ke 6 = nI (ed 6) := by rw [hfr ke 6 (by simp [pS]; omega)]; exact hed 6 (by omega)
      refine V.iload dX8_spoils_3 rfl ?_
      refine V.aload_n dX8_spoils_5 rfl rfl ?_
      refine Mg22 rfl dX8_spoils_6 ?_
      refine V.iload_n dX8_spoils_9 rfl rfl ?_
      refine Ml22 (x) rfl (by omega) dX8_spoils_10 ?_
      refine V.ei (y := nI ((D ++ r1).length)) hr.1 ?_
      refine V.icmp_ge (tgt := 131) dX8_spoils_11 (by decide) (fun c_1 => ?_) (fun c_1 => ?_)
      · have he : r1 = [] := by
          cases r1 with
          | nil => rfl
          | cons q1 q2 => exact absurd ((nI_leI (by omega) (by simp at hl40 ⊢; omega)).mp c_1) (by simp)
        subst he
        have hsp2 := hsp
        simp only [sp, List.append_nil] at hsp2 hr
        exact V.vret (I1, (up2 (up2 J 25 x (J 25 x + lN k)) 23 x f1)) rfl rfl ⟨by rw [spo, ← hsp2]; exact ⟨hs.1, hs.2.1, hs.2.2.1, (by show up2 (up2 J 25 x (J 25 x + lN k)) 23 x f1 25 x = s.2.1.2.1 + lN k; rw [up2_k _ _ (by decide), up2_s, hs.2.2.2.1]), hs.2.2.2.2.1, hs.2.2.2.2.2.1, hs.2.2.2.2.2.2.1, (show up2 (up2 J 25 x (J 25 x + lN k)) 23 x f1 23 x = f1 from up2_s _ _ _ _), hr⟩, hfr, (fr.up ⟨by omega, by omega, rfl⟩).tr (fr.up ⟨by omega, by omega, rfl⟩)⟩ rfl (by decide) (by decide) dX8_spoils_131
      · obtain ⟨l, r2, rfl⟩ : ∃ l r2, r1 = l :: r2 := by
          cases r1 with
          | nil => exact absurd (by simp) c_1
          | cons q1 q2 => exact ⟨q1, q2, rfl⟩
        have hDl : D.length < 40 := by simp at hl40; omega
        have hm1 := hmr l (by simp)
        have hsl := spl_le (t := l.2.2.1) hp
        have hmul : l.2.2.1 * ed 6 ≤ 50000 * 100 := Nat.mul_le_mul hm1.2 hp
        refine V.bipush (v := nI (40)) dX8_spoils_14 rfl ?_
        refine V.iload_n dX8_spoils_16 rfl rfl ?_
        refine V.imul dX8_spoils_17 ?_
        refine V.ei (pk_mul _ _) ?_
        refine V.iload dX8_spoils_18 rfl ?_
        refine V.iadd dX8_spoils_20 ?_
        refine V.ei (nI_add _ _) ?_
        refine V.istore (lv' := [(5, .int (nI (((40) * (x)) + (D.length)))), (4, .int (nI (D.length))), (0, .ref (o)), (1, .int (nI (x))), (2, .int (nI (mo))), (3, .ref (ad ke))]) dX8_spoils_21 (by decide) rfl ?_
        refine V.iload_n dX8_spoils_23 rfl rfl ?_
        refine V.aload_n dX8_spoils_24 rfl rfl ?_
        refine Mg30 rfl dX8_spoils_25 ?_
        refine V.iload dX8_spoils_28 rfl ?_
        refine Ml30 (((40) * (x)) + (D.length)) rfl (by omega) dX8_spoils_30 ?_
        refine V.ei (y := nI (l.1)) (hr.2 D.length l mid_at).1 ?_
        refine V.isub dX8_spoils_31 ?_
        refine V.ei (y := nI (mo - l.1)) (pk_sub (by omega)) ?_
        refine V.aload_n dX8_spoils_32 rfl rfl ?_
        refine V.iconst (v := nI (5)) dX8_spoils_33 rfl ?_
        refine Mle hke (5) rfl (by omega) dX8_spoils_34 ?_
        refine V.ei (y := nI (ed 5)) he5 ?_
        refine V.icmp_ge (tgt := 41) dX8_spoils_35 (by decide) (fun c_2 => ?_) (fun c_2 => ?_)
        · have hage : ¬ mo < l.1 + ed 5 := by have := (nI_leI (by omega) (by omega)).mp c_2; omega
          refine V.aload_n dX8_spoils_41 rfl rfl ?_
          refine Mg32 rfl dX8_spoils_42 ?_
          refine V.iload dX8_spoils_45 rfl ?_
          refine Ml32 (((40) * (x)) + (D.length)) rfl (by omega) dX8_spoils_47 ?_
          refine V.ei (y := nI (l.2.2.1)) (hr.2 D.length l mid_at).2.2.1 ?_
          refine V.i2l (v := lN (l.2.2.1)) dX8_spoils_48 (nI_l (by omega)) ?_
          refine V.aload_n dX8_spoils_49 rfl rfl ?_
          refine V.bipush (v := nI (6)) dX8_spoils_50 rfl ?_
          refine Mle hke (6) rfl (by omega) dX8_spoils_52 ?_
          refine V.ei (y := nI (ed 6)) he6 ?_
          refine V.i2l (v := lN (ed 6)) dX8_spoils_53 (nI_l (by omega)) ?_
          refine V.lmul dX8_spoils_54 ?_
          refine V.el (lN_mul _ _) ?_
          refine V.ldc2 (v := 99) kK_X8_192 dX8_spoils_55 ?_
          refine V.el (y := lN 99) rfl ?_
          refine V.ladd dX8_spoils_58 ?_
          refine V.el (lN_add _ _) ?_
          refine V.ldc2 (v := 100) kK_X8_194 dX8_spoils_59 ?_
          refine V.el (y := lN 100) rfl ?_
          refine V.ldiv dX8_spoils_62 (by decide) ?_
          refine V.el (y := lN (spl (ed 6) l.2.2.1)) (pk_lDiv (by omega) (by omega) (by omega)) ?_
          refine V.l2i (v := nI (spl (ed 6) l.2.2.1)) dX8_spoils_63 (lN_i _) ?_
          refine V.istore (lv' := [(6, .int (nI (spl (ed 6) l.2.2.1))), (5, .int (nI (((40) * (x)) + (D.length)))), (4, .int (nI (D.length))), (0, .ref (o)), (1, .int (nI (x))), (2, .int (nI (mo))), (3, .ref (ad ke))]) dX8_spoils_64 (by decide) rfl ?_
          refine V.aload_n dX8_spoils_66 rfl rfl ?_
          refine Mg32 rfl dX8_spoils_67 ?_
          refine V.iload dX8_spoils_70 rfl ?_
          refine V.dup2_11 dX8_spoils_72 rfl rfl ?_
          refine Ml32 (((40) * (x)) + (D.length)) rfl (by omega) dX8_spoils_73 ?_
          refine V.ei (y := nI (l.2.2.1)) (hr.2 D.length l mid_at).2.2.1 ?_
          refine V.iload dX8_spoils_74 rfl ?_
          refine V.isub dX8_spoils_76 ?_
          refine V.ei (y := nI (l.2.2.1 - spl (ed 6) l.2.2.1)) (pk_sub hsl) ?_
          refine Ms32 (((40) * (x)) + (D.length)) rfl (by omega) dX8_spoils_77 ?_
          refine V.aload_n dX8_spoils_78 rfl rfl ?_
          refine Mg31 rfl dX8_spoils_79 ?_
          refine V.iload dX8_spoils_82 rfl ?_
          refine V.dup2_11 dX8_spoils_84 rfl rfl ?_
          refine Ml31 (((40) * (x)) + (D.length)) rfl (by omega) dX8_spoils_85 ?_
          refine V.ei (y := l.2.1) (hr.2 D.length l mid_at).2.1 ?_
          refine V.iload dX8_spoils_86 rfl ?_
          refine V.isub dX8_spoils_88 ?_
          refine Ms31 (((40) * (x)) + (D.length)) rfl (by omega) dX8_spoils_89 ?_
          refine V.aload_n dX8_spoils_90 rfl rfl ?_
          refine Mg25 rfl dX8_spoils_91 ?_
          refine V.iload_n dX8_spoils_94 rfl rfl ?_
          refine V.dup2_11 dX8_spoils_95 rfl rfl ?_
          refine Ml25 (x) rfl (by omega) dX8_spoils_96 ?_
          refine V.el (y := J 25 x + lN k) (show _ = J 25 x + lN k by rw [up2_k _ _ (by decide), up2_s]) ?_
          refine V.iload dX8_spoils_97 rfl ?_
          refine V.i2l (v := lN (spl (ed 6) l.2.2.1)) dX8_spoils_99 (nI_l (by omega)) ?_
          refine V.ladd dX8_spoils_100 ?_
          refine Ms25 (x) rfl (by omega) dX8_spoils_101 ?_
          refine V.aload_n dX8_spoils_102 rfl rfl ?_
          refine Mg32 rfl dX8_spoils_103 ?_
          refine V.iload dX8_spoils_106 rfl ?_
          refine Ml32 (((40) * (x)) + (D.length)) rfl (by omega) dX8_spoils_108 ?_
          refine V.ei (y := nI (l.2.2.1 - spl (ed 6) l.2.2.1)) (by rw [up2_k _ _ (by decide), up2_s]) ?_
          refine V.if_le (tgt := 115) dX8_spoils_109 (by decide) (fun c_3 => ?_) (fun c_3 => ?_)
          · have hgone : l.2.2.1 - spl (ed 6) l.2.2.1 = 0 := by
              rcases Nat.eq_zero_or_pos (l.2.2.1 - spl (ed 6) l.2.2.1) with q | q
              · exact q
              · exact absurd c_3 (nI_nle q (by omega))
            refine V.aload_n dX8_spoils_115 rfl rfl ?_
            refine V.iload_n dX8_spoils_116 rfl rfl ?_
            refine V.iload dX8_spoils_117 rfl ?_
            refine V.callV0 (c_X8_goes _ G o ad sc (up2 (up2 I1 32 (((40) * (x)) + (D.length)) (nI (l.2.2.1 - spl (ed 6) l.2.2.1))) 31 (((40) * (x)) + (D.length)) ((l.2.1) - (nI (spl (ed 6) l.2.2.1)))) (up2 (up2 (up2 J 25 x (J 25 x + lN k)) 23 x f1) 25 (x) ((J 25 x + lN k) + (lN (spl (ed 6) l.2.2.1)))) x D.length (D ++ (l.1, l.2.1 - nI (spl (ed 6) l.2.2.1), l.2.2.1 - (spl (ed 6) l.2.2.1), l.2.2.2) :: r2) (l.1, l.2.1 - nI (spl (ed 6) l.2.2.1), l.2.2.1 - (spl (ed 6) l.2.2.1), l.2.2.2) hx (by have := rowR_set (b := l.2.1 - nI (spl (ed 6) l.2.2.1)) (t := l.2.2.1 - (spl (ed 6) l.2.2.1)) hr mid_at; rw [set_mid] at this; exact this) (by simpa using hl40) mid_at) [] 0 9 rfl rfl rfl rfl (goodV kM_X8_165 kI_X8_goes kV_X8_goes kN_X8 kC_X8_goes) ds_X8_goes (by decide) (Nat.le_of_ble_eq_true rfl) dX8_spoils_119 (by decide) (fun u hu => ?_)
            rw [erase_mid] at hu
            refine V.wd (ws' := mw G o ad sc u (up2 (up2 J 25 x (J 25 x + lN (k + (spl (ed 6) l.2.2.1)))) 23 x (f1 + (l.2.1 - nI (spl (ed 6) l.2.2.1)).toInt64))) (by rw [jsp]) ?_
            refine V.to (lv' := [(6, .int (nI (spl (ed 6) l.2.2.1))), (5, .int (nI (((40) * (x)) + (D.length)))), (4, .int (nI (D.length))), (0, .ref (o)), (1, .int (nI (x))), (2, .int (nI (mo))), (3, .ref (ad ke))]) (st := []) (pc' := 122) rfl rfl rfl ?_
            refine V.iinc (k := 2) (v := nI (D.length) - nI (1)) (lv' := [(4, .int (nI (D.length) - nI (1))), (6, .int (nI (spl (ed 6) l.2.2.1))), (5, .int (nI (((40) * (x)) + (D.length)))), (0, .ref (o)), (1, .int (nI (x))), (2, .int (nI (mo))), (3, .ref (ad ke))]) dX8_spoils_122 rfl (show nI D.length + Int32.ofInt (-1) = nI D.length - nI 1 by rw [Int32.sub_eq_add_neg]; rfl) (by decide) rfl ?_
            refine V.iinc (k := 0) (v := nI (D.length)) (lv' := [(4, .int (nI (D.length))), (6, .int (nI (spl (ed 6) l.2.2.1))), (5, .int (nI (((40) * (x)) + (D.length)))), (0, .ref (o)), (1, .int (nI (x))), (2, .int (nI (mo))), (3, .ref (ad ke))]) dX8_spoils_125 rfl (sub1_inc _) (by decide) rfl ?_
            refine V.goto (tgt := 3) dX8_spoils_128 (by decide) ?_
            refine V.pick [0, 3, 4, 5, 6] (lv' := [(4, .int (nI (D.length))), (0, .ref (o)), (1, .int (nI (x))), (2, .int (nI (mo))), (3, .ref (ad ke))]) rfl ?_; exact ih D r2 u _ _ (by simp at hd; omega) hu.1 (by simp at hl40 ⊢; omega) (fun q hq => hmr q (by simp at hq ⊢; rcases hq with z | z; exact Or.inl z; exact Or.inr (Or.inr z))) (by rw [← hsp, sp, if_neg hage, if_pos hgone]) ((hfr.tr (set_fr hDl)).tr hu.2)
          · have hgone : ¬ l.2.2.1 - spl (ed 6) l.2.2.1 = 0 := fun q => c_3 (by rw [q]; decide)
            refine V.goto (tgt := 125) dX8_spoils_112 (by decide) ?_
            refine V.iinc (k := 2) (v := nI (D.length + 1)) (lv' := [(4, .int (nI (D.length + 1))), (6, .int (nI (spl (ed 6) l.2.2.1))), (5, .int (nI (((40) * (x)) + (D.length)))), (0, .ref (o)), (1, .int (nI (x))), (2, .int (nI (mo))), (3, .ref (ad ke))]) dX8_spoils_125 rfl (iinc1 _) (by decide) rfl ?_
            refine V.goto (tgt := 3) dX8_spoils_128 (by decide) ?_
            refine V.wd (ws' := mw G o ad sc (up2 (up2 I1 32 (((40) * (x)) + (D.length)) (nI (l.2.2.1 - spl (ed 6) l.2.2.1))) 31 (((40) * (x)) + (D.length)) ((l.2.1) - (nI (spl (ed 6) l.2.2.1)))) (up2 (up2 J 25 x (J 25 x + lN (k + (spl (ed 6) l.2.2.1)))) 23 x f1)) (by rw [jsp2]) ?_
            refine V.to (lv' := [(4, .int (nI ((D ++ [(l.1, l.2.1 - nI (spl (ed 6) l.2.2.1), l.2.2.1 - (spl (ed 6) l.2.2.1), l.2.2.2)]).length))), (6, .int (nI (spl (ed 6) l.2.2.1))), (5, .int (nI (((40) * (x)) + (D.length)))), (0, .ref (o)), (1, .int (nI (x))), (2, .int (nI (mo))), (3, .ref (ad ke))]) (st := []) (pc' := 3) (by rw [show D.length + 1 = (D ++ [(l.1, l.2.1 - nI (spl (ed 6) l.2.2.1), l.2.2.1 - (spl (ed 6) l.2.2.1), l.2.2.2)]).length by simp]) rfl rfl ?_
            refine V.pick [0, 3, 4, 5, 6] (lv' := [(4, .int (nI ((D ++ [(l.1, l.2.1 - nI (spl (ed 6) l.2.2.1), l.2.2.1 - (spl (ed 6) l.2.2.1), l.2.2.2)]).length))), (0, .ref (o)), (1, .int (nI (x))), (2, .int (nI (mo))), (3, .ref (ad ke))]) rfl ?_; exact ih (D ++ [(l.1, l.2.1 - nI (spl (ed 6) l.2.2.1), l.2.2.1 - (spl (ed 6) l.2.2.1), l.2.2.2)]) r2 _ _ _ (by simp at hd; omega) (by have := rowR_set (b := l.2.1 - nI (spl (ed 6) l.2.2.1)) (t := l.2.2.1 - (spl (ed 6) l.2.2.1)) hr mid_at; rw [set_mid] at this; simpa using this) (by simpa using hl40) (fun q hq => by simp at hq; rcases hq with hq | rfl | hq; exact hmr q (by simp [hq]); exact ⟨hm1.1, Nat.le_trans (Nat.sub_le _ _) hm1.2⟩; exact hmr q (by simp [hq])) (by rw [← hsp, sp, if_neg hage, if_neg hgone]; simp) (hfr.tr (set_fr hDl))
        · have hage : mo < l.1 + ed 5 := by
            rcases Nat.lt_or_ge (mo - l.1) (ed 5) with q | q
            · omega
            · exact absurd (nI_le q (by omega)) c_2
          refine V.goto (tgt := 125) dX8_spoils_38 (by decide) ?_
          refine V.iinc (k := 1) (v := nI (D.length + 1)) (lv' := [(4, .int (nI (D.length + 1))), (5, .int (nI (((40) * (x)) + (D.length)))), (0, .ref (o)), (1, .int (nI (x))), (2, .int (nI (mo))), (3, .ref (ad ke))]) dX8_spoils_125 rfl (iinc1 _) (by decide) rfl ?_
          refine V.goto (tgt := 3) dX8_spoils_128 (by decide) ?_
          refine V.to (lv' := [(4, .int (nI ((D ++ [l]).length))), (5, .int (nI (((40) * (x)) + (D.length)))), (0, .ref (o)), (1, .int (nI (x))), (2, .int (nI (mo))), (3, .ref (ad ke))]) (st := []) (pc' := 3) (by rw [show D.length + 1 = (D ++ [l]).length by simp]) rfl rfl ?_
          refine V.pick [0, 2, 3, 4, 5] (lv' := [(4, .int (nI ((D ++ [l]).length))), (0, .ref (o)), (1, .int (nI (x))), (2, .int (nI (mo))), (3, .ref (ad ke))]) rfl ?_; exact ih (D ++ [l]) r2 I1 _ _ (by simp at hd; omega) (by simpa using hr) (by simpa using hl40) (fun q hq => hmr q (by simpa using hq)) (by rw [← hsp, sp, if_pos hage]; simp) hfr
  refine V.wd (ws' := mw G o ad sc I (up2 (up2 J 25 x (J 25 x + lN 0)) 23 x s.2.1.2.2.2.2.2)) (by rw [show J 25 x + lN 0 = J 25 x from Int64.add_zero _, up2_id, ← hs.2.2.2.2.2.2.2.1, up2_id]) ?_
  refine V.iconst (v := nI (0)) dX8_spoils_0 rfl ?_
  refine V.istore (lv' := [(4, .int (nI (0))), (0, .ref (o)), (1, .int (nI (x))), (2, .int (nI (mo))), (3, .ref (ad ke))]) dX8_spoils_1 (by decide) rfl ?_
  refine V.pick [0, 1, 2, 3, 4] (lv' := [(4, .int (nI (0))), (0, .ref (o)), (1, .int (nI (x))), (2, .int (nI (mo))), (3, .ref (ad ke))]) rfl ?_; exact loop (s.2.2.length + 1) [] s.2.2 I s.2.1.2.2.2.2.2 0 (by omega) hs.2.2.2.2.2.2.2.2 ok.1.1 (fun q hq => ⟨hmo3 q hq, Nat.le_trans (tsum_mem hq) hk3⟩) rfl fr.rf
