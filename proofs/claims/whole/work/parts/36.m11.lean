set_option maxHeartbeats 4000000 in
set_option maxRecDepth 20000 in
theorem c_X8_foretold (l : Launch) (G : GG) (o : Nat) (ad : Nat → Nat) (sc : Int32 × Int32 × Int32) (I : Nat → Nat → Int32) (J : Nat → Nat → Int64) (B : Nat) (tp : List Nat) (nx : Nat → Nat) (tn rn : Nat) (E R Hv : Nat → Nat) (mo co : Nat) (C : List Cr) (T : Nat → ST) (rd : Nat → Rd) (hm : mrep sc I J tp nx tn rn E R Hv mo co C T rd) (hv : sinv B tp nx tn rn E R Hv mo co C T rd) (hB : B ≤ 2 ^ 47) (n : Int32) : Ct l G yX8_foretold cX8_foretold 2 (some .long) rm_X8_foretold [.ref (o), .int (n)] (mw G o ad sc I J) (fun u : (Int32 × Int32 × Int32) × (Nat → Nat → Int32) × (Nat → Nat → Int64) => mw G o ad u.1 u.2.1 u.2.2) (fun u : (Int32 × Int32 × Int32) × (Nat → Nat → Int32) × (Nat → Nat → Int64) => some (.long (if isN 1 24 n then lN (fore tn E R nx mo co C T (kN n)) else -1))) (fun u : (Int32 × Int32 × Int32) × (Nat → Nat → Int32) × (Nat → Nat → Int64) => mrep u.1 u.2.1 u.2.2 tp nx tn rn E R Hv mo co C T rd) := by
  refine Ct.of (by decide) (Nat.le_of_ble_eq_true rfl) (fun X A hX => ?_)
  subst hX
  refine V.to (lv' := [(0, .ref (o)), (1, .int (n))]) (st := []) (pc' := 0) rfl rfl rfl ?_
  obtain ⟨m0, m1, m2, m3, m4, m5, m6, m7, m8, m9, m10, m11, m12, m13⟩ := id hm
  obtain ⟨⟨v0, v1⟩, ⟨v2, v3⟩, ⟨v4, v5⟩, ⟨v6, v7, v8, v9⟩, ⟨v10, v11⟩, ⟨v12, v13⟩, ⟨v14, v15⟩, v16, v17⟩ := id hv
  refine V.iload_n dX8_foretold_0 rfl rfl ?_
  refine V.i2l dX8_foretold_1 rfl ?_
  refine V.lconst (v := lN 1) dX8_foretold_2 rfl ?_
  refine V.ldc2 (v := 24) kK_X8_213 dX8_foretold_3 ?_
  refine V.el (y := lN 24) rfl ?_
  refine V.callSE (c_X8_lies _ G ((n).toInt64) (lN (1)) (lN (24))) [] rfl (goodS kM_X8_120 kS_X8_lies kN_X8 kC_X8_lies) ds_X8_lies (by decide) (Nat.le_of_ble_eq_true rfl) dX8_foretold_6 (by decide) (fun u hu => ?_)
  refine V.to (lv' := [(0, .ref (o)), (1, .int (n))]) (st := [.int (if lN (1) ≤ (n).toInt64 ∧ (n).toInt64 ≤ lN (24) then 1 else 0)]) (pc' := 9) rfl rfl rfl ?_
  refine V.ei (y := if isN 1 24 n then 1 else 0) (liesI n (by omega) (by omega)) ?_
  refine V.if_ne (tgt := 16) dX8_foretold_9 (by decide) (fun c_1 => ?_) (fun c_1 => ?_)
  · have p := ite1.mp c_1
    refine V.aload_n dX8_foretold_16 rfl rfl ?_
    refine V.callV0 (c_X8_copies _ G o ad sc I J B tp nx tn rn E R Hv mo co C T rd hm hv hB) [] 0 9 rfl rfl rfl rfl (goodV kM_X8_235 kI_X8_copies kV_X8_copies kN_X8 kC_X8_copies) ds_X8_copies (by decide) (Nat.le_of_ble_eq_true rfl) dX8_foretold_17 (by decide) (fun u hu => ?_)
    refine V.to (lv' := [(0, .ref (o)), (1, .int (n))]) (st := []) (pc' := 20) rfl rfl rfl ?_
    have hm1 := mrep_g1 hm hv hu
    refine V.to (lv' := [(0, .ref (o)), (1, .int (nI (kN n)))]) (st := []) (by rw [← p.k.1]) rfl rfl ?_
    refine V.aload_n dX8_foretold_20 rfl rfl ?_
    refine V.iload_n dX8_foretold_21 rfl rfl ?_
    refine V.callV0 (c_X8_goesOn _ G o ad sc u.1 u.2 B tp nx tn rn E R Hv mo co C T rd hm1 hv hB I J B (1000000000 + 100000000 * mo) (kN n) (mo, co, C, (fun _ => 0), cpT tn J T) (by have := p.k.2; omega) v10 hu ⟨fun t ht => cp_inv v14 t ht, v11, ⟨v12, v13⟩, fun _ => Nat.zero_le _⟩ hB (by omega) (fun _ => rfl)) [] 0 9 rfl rfl rfl rfl (goodV kM_X8_238 kI_X8_goesOn kV_X8_goesOn kN_X8 kC_X8_goesOn) ds_X8_goesOn (by decide) (Nat.le_of_ble_eq_true rfl) dX8_foretold_22 (by decide) (fun u2 hu2 => ?_)
    refine V.to (lv' := [(0, .ref (o)), (1, .int (nI (kN n)))]) (st := [.long (hsum tn (mits tn E R nx (kN n) (mo, co, C, (fun _ => 0), cpT tn J T)).2.2.2.2)]) (pc' := 25) rfl rfl rfl ?_
    exact V.lret (sc, u2.1, u2.2) rfl (by rw [if_pos p, fore_cp (fun c hc => (v13 c hc).1)]) (mrep_g1x (y := (mo, co, C, (fun _ => 0), cpT tn J T)) hm hv hu2 (its_at (fun k c hc => ((msI_its (E := E) (show msI tn R B (1000000000 + 100000000 * mo) (mo, co, C, (fun _ => 0), cpT tn J T) from ⟨fun t ht => cp_inv v14 t ht, v11, ⟨v12, v13⟩, fun _ => Nat.zero_le _⟩) v4 (v2 3 (by omega)) v3 k).2.2.1.2 c hc).1) (kN n))) rfl (by decide) (by decide) dX8_foretold_25
  · have p := ite0.mp c_1
    refine V.ldc2 (v := -1) kK_X8_226 dX8_foretold_12 ?_
    exact V.lret (sc, I, J) rfl (by rw [if_neg p]) hm rfl (by decide) (by decide) dX8_foretold_15
