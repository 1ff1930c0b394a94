set_option maxHeartbeats 4000000 in
set_option maxRecDepth 20000 in
theorem c_X8_step (l : Launch) (G : GG) (o : Nat) (ad : Nat → Nat) (sc : Int32 × Int32 × Int32) (I : Nat → Nat → Int32) (J : Nat → Nat → Int64) (B : Nat) (tp : List Nat) (nx : Nat → Nat) (tn rn : Nat) (E R Hv : Nat → Nat) (mo co : Nat) (C : List Cr) (T : Nat → ST) (rd : Nat → Rd) (hm : mrep sc I J tp nx tn rn E R Hv mo co C T rd) (hv : sinv B tp nx tn rn E R Hv mo co C T rd) (hB : B ≤ 2 ^ 47) (n : Int32) : Ct l G yX8_step cX8_step 3 (some .int) rm_X8_step [.ref (o), .int (n)] (mw G o ad sc I J) (fun u : (Int32 × Int32 × Int32) × (Nat → Nat → Int32) × (Nat → Nat → Int64) => mw G o ad u.1 u.2.1 u.2.2) (fun u : (Int32 × Int32 × Int32) × (Nat → Nat → Int32) × (Nat → Nat → Int64) => some (.int (if isN 1 24 n ∧ mo + kN n ≤ 2000 then nI (mo + kN n) else -1))) (fun u : (Int32 × Int32 × Int32) × (Nat → Nat → Int32) × (Nat → Nat → Int64) => mrep u.1 u.2.1 u.2.2 tp nx tn rn E R (if isN 1 24 n ∧ mo + kN n ≤ 2000 then (mits tn E R nx (kN n) (mo, co, C, Hv, T)).2.2.2.1 else Hv) (if isN 1 24 n ∧ mo + kN n ≤ 2000 then mo + kN n else mo) (if isN 1 24 n ∧ mo + kN n ≤ 2000 then (mits tn E R nx (kN n) (mo, co, C, Hv, T)).2.1 else co) (if isN 1 24 n ∧ mo + kN n ≤ 2000 then (mits tn E R nx (kN n) (mo, co, C, Hv, T)).2.2.1 else C) (if isN 1 24 n ∧ mo + kN n ≤ 2000 then (mits tn E R nx (kN n) (mo, co, C, Hv, T)).2.2.2.2 else T) (if isN 1 24 n ∧ mo + kN n ≤ 2000 then rd00 rd else rd)) := by
  refine Ct.of (by decide) (Nat.le_of_ble_eq_true rfl) (fun X A hX => ?_)
  subst hX
  refine V.to (lv' := [(0, .ref (o)), (1, .int (n))]) (st := []) (pc' := 0) rfl rfl rfl ?_
  obtain ⟨m0, m1, m2, m3, m4, m5, m6, m7, m8, m9, m10, m11, m12, m13⟩ := id hm
  obtain ⟨⟨v0, v1⟩, ⟨v2, v3⟩, ⟨v4, v5⟩, ⟨v6, v7, v8, v9⟩, ⟨v10, v11⟩, ⟨v12, v13⟩, ⟨v14, v15⟩, v16, v17⟩ := id hv
  have q3 := v2 3 (by omega)
  have ms0 : msI tn R B (1000000000 + 100000000 * mo) (mo, co, C, Hv, T) := ⟨v14, v11, ⟨v12, v13⟩, v9⟩
  have msn : ∀ k, msI tn R (B + 800000 * k) (1000000000 + 100000000 * mo + 80000000 * k) (mits tn E R nx k (mo, co, C, Hv, T)) := msI_its ms0 v4 q3 v3
  have hcar : ∀ k c, c ∈ (mits tn E R nx k (mo, co, C, Hv, T)).2.2.1 → c.1 < 8 ∧ c.2.1 ≤ 5000 ∧ c.2.2 ≤ 10000 := fun k c hc => by have := (msn k).2.2.1.2 c hc; omega
  have hat : ∀ k t, tn ≤ t → (mits tn E R nx k (mo, co, C, Hv, T)).2.2.2.2 t = T t := by
    intro k; induction k with
    | zero => intro t ht; rfl
    | succ k ih => intro t ht; exact (mstep_at (fun c hc => ((msn k).2.2.1.2 c hc).1) t ht).trans (ih t ht)
  have loop3 : ∀ (d : Nat) (p : isN 1 24 n) (q : mo + kN n ≤ 2000) (k : Nat) (I1 I2 : Nat → Nat → Int32) (J1 : Nat → Nat → Int64), rn - k < d → k ≤ rn → mst I J 0 I1 J1 (mits tn E R nx (kN n) (mo, co, C, Hv, T)) → (∀ t, t < tn → (I1 9 t = nI ((mits tn E R nx (kN n) (mo, co, C, Hv, T)).2.2.2.1 t) ∨ ((mits tn E R nx (kN n) (mo, co, C, Hv, T)).2.2.2.1 t = 0 ∧ I1 9 t = -1))) → fr (fun a b => a = 14) I1 I2 → (∀ r, r < k → I2 14 r = 0) → (∀ r, k ≤ r → I2 14 r = I1 14 r) → V G X yX8_step cX8_step 3 (some .int) rm_X8_step A (MZ G X rm_X8_step A (fun u : (Int32 × Int32 × Int32) × (Nat → Nat → Int32) × (Nat → Nat → Int64) => mw G o ad u.1 u.2.1 u.2.2) (fun u : (Int32 × Int32 × Int32) × (Nat → Nat → Int32) × (Nat → Nat → Int64) => some (.int (if isN 1 24 n ∧ mo + kN n ≤ 2000 then nI (mo + kN n) else -1))) (fun u : (Int32 × Int32 × Int32) × (Nat → Nat → Int32) × (Nat → Nat → Int64) => mrep u.1 u.2.1 u.2.2 tp nx tn rn E R (if isN 1 24 n ∧ mo + kN n ≤ 2000 then (mits tn E R nx (kN n) (mo, co, C, Hv, T)).2.2.2.1 else Hv) (if isN 1 24 n ∧ mo + kN n ≤ 2000 then mo + kN n else mo) (if isN 1 24 n ∧ mo + kN n ≤ 2000 then (mits tn E R nx (kN n) (mo, co, C, Hv, T)).2.1 else co) (if isN 1 24 n ∧ mo + kN n ≤ 2000 then (mits tn E R nx (kN n) (mo, co, C, Hv, T)).2.2.1 else C) (if isN 1 24 n ∧ mo + kN n ≤ 2000 then (mits tn E R nx (kN n) (mo, co, C, Hv, T)).2.2.2.2 else T) (if isN 1 24 n ∧ mo + kN n ≤ 2000 then rd00 rd else rd))) 0 0 (mw G o ad sc I2 J1) [(2, .int (nI (k))), (0, .ref (o)), (1, .int (nI (kN n)))] 78 [] := by
    intro d
    induction d with
    | zero => intro p q k I1 I2 J1 hd; exact absurd hd (Nat.not_lt_zero _)
    | succ d ih =>
      intro p q k I1 I2 J1 hd hk hst h9 hf h14 h14b
      refine V.iload_n dX8_step_78 rfl rfl ?_
      refine V.aload_n dX8_step_79 rfl rfl ?_
      refine Mg6 rfl dX8_step_80 ?_
      refine V.ei (y := nI (rn)) m4 ?_
      refine V.icmp_ge (tgt := 99) dX8_step_83 (by decide) (fun c_1 => ?_) (fun c_1 => ?_)
      · have hc := (nI_leI (by omega) (by omega)).mp c_1
        have he : k = rn := by omega
        refine V.aload_n dX8_step_99 rfl rfl ?_
        refine Mg15 rfl dX8_step_100 ?_
        refine V.iconst (v := nI (0)) dX8_step_103 rfl ?_
        refine Ml15 (0) rfl (by omega) dX8_step_104 ?_
        refine V.ei (y := nI (mits tn E R nx (kN n) (mo, co, C, Hv, T)).1) ((hf 15 0 (by omega)).trans hst.2.2.1) ?_
        have hacc : isN 1 24 n ∧ mo + kN n ≤ 2000 := ⟨p, q⟩
        have hmm := mits_mo tn E R nx (mo, co, C, Hv, T) (kN n)
        exact V.iret (sc, I2, J1) rfl (by simp only [if_pos hacc]; rw [hmm]) (by simp only [if_pos hacc]; exact step_end hm hv v12 hst h9 hf h14 h14b he hmm (fun t ht => (msn (kN n)).1 t ht) (msn (kN n)).2.2.1.1 (fun t ht => hat (kN n) t ht)) rfl (by decide) (by decide) dX8_step_105
      · have hc : k < rn := by
          rcases Nat.lt_or_ge k rn with z | z
          · exact z
          · exact absurd (nI_le z (by omega)) c_1
        refine V.aload_n dX8_step_86 rfl rfl ?_
        refine Mg14 rfl dX8_step_87 ?_
        refine V.iload_n dX8_step_90 rfl rfl ?_
        refine V.iconst (v := nI (0)) dX8_step_91 rfl ?_
        refine Ms14 (k) rfl (by omega) dX8_step_92 ?_
        refine V.iinc (k := 0) (v := nI (k + 1)) (lv' := [(2, .int (nI (k + 1))), (0, .ref (o)), (1, .int (nI (kN n)))]) dX8_step_93 rfl (iinc1 _) (by decide) rfl ?_
        refine V.goto (tgt := 78) dX8_step_96 (by decide) ?_
        refine V.pick [0, 1, 2] (lv' := [(2, .int (nI (k + 1))), (0, .ref (o)), (1, .int (nI (kN n)))]) rfl ?_; exact ih p q (k + 1) I1 _ J1 (by omega) (by omega) hst h9 (hf.tr (fr.up rfl)) (fun r hr => by
          by_cases z : r = k
          · subst z; rw [up2_s]; rfl
          · rw [up2_j _ _ z]; exact h14 r (by omega)) (fun r hr => by rw [up2_j _ _ (by omega)]; exact h14b r (by omega))
  have loop2 : ∀ (d : Nat) (p : isN 1 24 n) (q : mo + kN n ≤ 2000) (k : Nat) (I1 : Nat → Nat → Int32) (J1 : Nat → Nat → Int64), kN n - k < d → k ≤ kN n → mst I J 0 I1 J1 (mits tn E R nx k (mo, co, C, Hv, T)) → (∀ t, t < tn → (I1 9 t = nI ((mits tn E R nx k (mo, co, C, Hv, T)).2.2.2.1 t) ∨ ((mits tn E R nx k (mo, co, C, Hv, T)).2.2.2.1 t = 0 ∧ I1 9 t = -1))) → (∀ j, j < 8 → I1 2 j = nI (nx j)) → V G X yX8_step cX8_step 3 (some .int) rm_X8_step A (MZ G X rm_X8_step A (fun u : (Int32 × Int32 × Int32) × (Nat → Nat → Int32) × (Nat → Nat → Int64) => mw G o ad u.1 u.2.1 u.2.2) (fun u : (Int32 × Int32 × Int32) × (Nat → Nat → Int32) × (Nat → Nat → Int64) => some (.int (if isN 1 24 n ∧ mo + kN n ≤ 2000 then nI (mo + kN n) else -1))) (fun u : (Int32 × Int32 × Int32) × (Nat → Nat → Int32) × (Nat → Nat → Int64) => mrep u.1 u.2.1 u.2.2 tp nx tn rn E R (if isN 1 24 n ∧ mo + kN n ≤ 2000 then (mits tn E R nx (kN n) (mo, co, C, Hv, T)).2.2.2.1 else Hv) (if isN 1 24 n ∧ mo + kN n ≤ 2000 then mo + kN n else mo) (if isN 1 24 n ∧ mo + kN n ≤ 2000 then (mits tn E R nx (kN n) (mo, co, C, Hv, T)).2.1 else co) (if isN 1 24 n ∧ mo + kN n ≤ 2000 then (mits tn E R nx (kN n) (mo, co, C, Hv, T)).2.2.1 else C) (if isN 1 24 n ∧ mo + kN n ≤ 2000 then (mits tn E R nx (kN n) (mo, co, C, Hv, T)).2.2.2.2 else T) (if isN 1 24 n ∧ mo + kN n ≤ 2000 then rd00 rd else rd))) 0 0 (mw G o ad sc I1 J1) [(2, .int (nI (k))), (0, .ref (o)), (1, .int (nI (kN n)))] 56 [] := by
    intro d
    induction d with
    | zero => intro p q k I1 J1 hd; exact absurd hd (Nat.not_lt_zero _)
    | succ d ih =>
      intro p q k I1 J1 hd hk hst h9 h2
      have hp := p.k.2
      have hms := msn k
      have hmk : (mits tn E R nx k (mo, co, C, Hv, T)).1 = mo + k := mits_mo tn E R nx (mo, co, C, Hv, T) k
      refine V.iload_n dX8_step_56 rfl rfl ?_
      refine V.iload_n dX8_step_57 rfl rfl ?_
      refine V.icmp_ge (tgt := 76) dX8_step_58 (by decide) (fun c_1 => ?_) (fun c_1 => ?_)
      · have hc := (nI_leI (by omega) (by omega)).mp c_1
        have he : k = kN n := by omega
        rw [he] at hst h9
        refine V.iconst (v := nI (0)) dX8_step_76 rfl ?_
        refine V.istore_n (lv' := [(2, .int (nI (0))), (0, .ref (o)), (1, .int (nI (kN n)))]) dX8_step_77 rfl (by decide) rfl ?_
        refine V.pick [0, 1, 2] (lv' := [(2, .int (nI (0))), (0, .ref (o)), (1, .int (nI (kN n)))]) rfl ?_; exact loop3 (rn + 1) p q 0 I1 I1 J1 (by omega) (by omega) hst h9 fr.rf (fun r hr => by omega) (fun r hr => rfl)
      · have hc : k < kN n := by
          rcases Nat.lt_or_ge k (kN n) with z | z
          · exact z
          · exact absurd (nI_le z (by omega)) c_1
        refine V.aload_n dX8_step_61 rfl rfl ?_
        refine V.iconst (v := nI (0)) dX8_step_62 rfl ?_
        refine V.aload_n dX8_step_63 rfl rfl ?_
        refine Mg2 rfl dX8_step_64 ?_
        refine V.callV0 (c_X8_goesBy _ G o ad sc I1 J1 0 (mits tn E R nx k (mo, co, C, Hv, T)).1 (mits tn E R nx k (mo, co, C, Hv, T)).2.1 (B + 800000 * k) tn 2 E R (mits tn E R nx k (mo, co, C, Hv, T)).2.2.2.1 nx (mits tn E R nx k (mo, co, C, Hv, T)).2.2.1 (mits tn E R nx k (mo, co, C, Hv, T)).2.2.2.2 (by omega) v4 m3 (Or.inl rfl) hst.1 hms.1 (by omega) (fun t ht => (hst.2.2.2.2.1 8 t (by simp only [pG, pC]; omega)).trans (m6 t ht)) (fun t _ => v8 t) (fun t ht => (hst.2.2.2.2.1 7 t (by simp only [pG, pC]; omega)).trans (m5 t ht)) v6 (fun t _ => v7 t) hst.2.2.1 (by omega) hst.2.1 (by have := hms.2.1; omega) hst.2.2.2.1 hms.2.2.1.1 (hcar k) (Or.inl ⟨rfl, h9⟩) (fun t _ => hms.2.2.2 t) h2 v2 v3) [] 0 9 rfl rfl rfl rfl (goodV kM_X8_215 kI_X8_goesBy kV_X8_goesBy kN_X8 kC_X8_goesBy) ds_X8_goesBy (by decide) (Nat.le_of_ble_eq_true rfl) dX8_step_67 (by decide) (fun u hu => ?_)
        refine V.to (lv' := [(2, .int (nI (k))), (0, .ref (o)), (1, .int (nI (kN n)))]) (st := []) (pc' := 70) rfl rfl rfl ?_
        refine V.iinc (k := 0) (v := nI (k + 1)) (lv' := [(2, .int (nI (k + 1))), (0, .ref (o)), (1, .int (nI (kN n)))]) dX8_step_70 rfl (iinc1 _) (by decide) rfl ?_
        refine V.goto (tgt := 56) dX8_step_73 (by decide) ?_
        refine V.pick [0, 1, 2] (lv' := [(2, .int (nI (k + 1))), (0, .ref (o)), (1, .int (nI (kN n)))]) rfl ?_; exact ih p q (k + 1) u.1 u.2 (by omega) (by omega) (mst_step hst hu.1) (fun t ht => Or.inr ⟨rfl, hu.2 rfl t ht⟩) (fun j hj => (hu.1.2.2.2.2.1 2 j (by simp only [pG, pC]; omega)).trans (h2 j hj))
  have loop1 : ∀ (d : Nat) (p : isN 1 24 n) (q : mo + kN n ≤ 2000) (k : Nat) (I1 : Nat → Nat → Int32), 8 - k < d → k ≤ 8 → fr (fun a b => a = 2) I I1 → (∀ j, j < k → I1 2 j = nI (nx j)) → V G X yX8_step cX8_step 3 (some .int) rm_X8_step A (MZ G X rm_X8_step A (fun u : (Int32 × Int32 × Int32) × (Nat → Nat → Int32) × (Nat → Nat → Int64) => mw G o ad u.1 u.2.1 u.2.2) (fun u : (Int32 × Int32 × Int32) × (Nat → Nat → Int32) × (Nat → Nat → Int64) => some (.int (if isN 1 24 n ∧ mo + kN n ≤ 2000 then nI (mo + kN n) else -1))) (fun u : (Int32 × Int32 × Int32) × (Nat → Nat → Int32) × (Nat → Nat → Int64) => mrep u.1 u.2.1 u.2.2 tp nx tn rn E R (if isN 1 24 n ∧ mo + kN n ≤ 2000 then (mits tn E R nx (kN n) (mo, co, C, Hv, T)).2.2.2.1 else Hv) (if isN 1 24 n ∧ mo + kN n ≤ 2000 then mo + kN n else mo) (if isN 1 24 n ∧ mo + kN n ≤ 2000 then (mits tn E R nx (kN n) (mo, co, C, Hv, T)).2.1 else co) (if isN 1 24 n ∧ mo + kN n ≤ 2000 then (mits tn E R nx (kN n) (mo, co, C, Hv, T)).2.2.1 else C) (if isN 1 24 n ∧ mo + kN n ≤ 2000 then (mits tn E R nx (kN n) (mo, co, C, Hv, T)).2.2.2.2 else T) (if isN 1 24 n ∧ mo + kN n ≤ 2000 then rd00 rd else rd))) 0 0 (mw G o ad sc I1 J) [(2, .int (nI (k))), (0, .ref (o)), (1, .int (nI (kN n)))] 30 [] := by
    intro d
    induction d with
    | zero => intro p q k I1 hd; exact absurd hd (Nat.not_lt_zero _)
    | succ d ih =>
      intro p q k I1 hd hk hf h2
      refine V.iload_n dX8_step_30 rfl rfl ?_
      refine V.bipush (v := nI (8)) dX8_step_31 rfl ?_
      refine V.icmp_ge (tgt := 54) dX8_step_33 (by decide) (fun c_1 => ?_) (fun c_1 => ?_)
      · have hc := (nI_leI (by omega) (by omega)).mp c_1
        have he : k = 8 := by omega
        subst he
        refine V.iconst (v := nI (0)) dX8_step_54 rfl ?_
        refine V.istore_n (lv' := [(2, .int (nI (0))), (0, .ref (o)), (1, .int (nI (kN n)))]) dX8_step_55 rfl (by decide) rfl ?_
        refine V.pick [0, 1, 2] (lv' := [(2, .int (nI (0))), (0, .ref (o)), (1, .int (nI (kN n)))]) rfl ?_; exact loop2 (kN n + 1) p q 0 I1 J (by omega) (by omega) ⟨MRg_keep (P := fun a b => a = 2) (P' := fun _ _ => False) m11 (fun t ht => (v14 t ht).1) hf fr.rf (fun k j z => by omega) (fun k j z => z.elim), m9, (hf 15 0 (by omega)).trans m8, crR_fr hf m10 v12 (by omega) (by intros; omega), hf.mono (fun _ _ z => Or.inr z), fr.rf⟩ (fun t ht => by rw [hf 9 t (by omega)]; exact m7 t ht) h2
      · have hc : k < 8 := by
          rcases Nat.lt_or_ge k 8 with z | z
          · exact z
          · exact absurd (nI_le z (by omega)) c_1
        refine V.aload_n dX8_step_36 rfl rfl ?_
        refine Mg2 rfl dX8_step_37 ?_
        refine V.iload_n dX8_step_40 rfl rfl ?_
        refine V.aload_n dX8_step_41 rfl rfl ?_
        refine Mg3 rfl dX8_step_42 ?_
        refine V.iload_n dX8_step_45 rfl rfl ?_
        refine Ml3 (k) rfl (by omega) dX8_step_46 ?_
        refine V.ei (y := nI (nx k)) ((hf 3 k (by omega)).trans (m2 k (by omega))) ?_
        refine Ms2 (k) rfl (by omega) dX8_step_47 ?_
        refine V.iinc (k := 0) (v := nI (k + 1)) (lv' := [(2, .int (nI (k + 1))), (0, .ref (o)), (1, .int (nI (kN n)))]) dX8_step_48 rfl (iinc1 _) (by decide) rfl ?_
        refine V.goto (tgt := 30) dX8_step_51 (by decide) ?_
        refine V.pick [0, 1, 2] (lv' := [(2, .int (nI (k + 1))), (0, .ref (o)), (1, .int (nI (kN n)))]) rfl ?_; exact ih p q (k + 1) _ (by omega) (by omega) (hf.tr (fr.up rfl)) (fun j hj => by
          by_cases z : j = k
          · subst z; exact up2_s _ _ _ _
          · rw [up2_j _ _ z]; exact h2 j (by omega))
  refine V.iload_n dX8_step_0 rfl rfl ?_
  refine V.i2l dX8_step_1 rfl ?_
  refine V.lconst (v := lN 1) dX8_step_2 rfl ?_
  refine V.ldc2 (v := 24) kK_X8_213 dX8_step_3 ?_
  refine V.el (y := lN 24) rfl ?_
  refine V.callSE (c_X8_lies _ G ((n).toInt64) (lN (1)) (lN (24))) [] rfl (goodS kM_X8_120 kS_X8_lies kN_X8 kC_X8_lies) ds_X8_lies (by decide) (Nat.le_of_ble_eq_true rfl) dX8_step_6 (by decide) (fun u hu => ?_)
  refine V.to (lv' := [(0, .ref (o)), (1, .int (n))]) (st := [.int (if lN (1) ≤ (n).toInt64 ∧ (n).toInt64 ≤ lN (24) then 1 else 0)]) (pc' := 9) rfl rfl rfl ?_
  refine V.ei (y := if isN 1 24 n then 1 else 0) (liesI n (by omega) (by omega)) ?_
  refine V.if_eq (tgt := 26) dX8_step_9 (by decide) (fun c_1 => ?_) (fun c_1 => ?_)
  · have p := ite0.mp c_1
    refine V.iconst (v := -1) dX8_step_26 (by decide) ?_
    have hacc : ¬ (isN 1 24 n ∧ mo + kN n ≤ 2000) := (fun z => p z.1)
    exact V.iret (sc, I, J) rfl (by simp only [if_neg hacc]) (by simp only [if_neg hacc]; exact hm) rfl (by decide) (by decide) dX8_step_27
  · have p := ite1.mp c_1
    refine V.aload_n dX8_step_12 rfl rfl ?_
    refine Mg15 rfl dX8_step_13 ?_
    refine V.iconst (v := nI (0)) dX8_step_16 rfl ?_
    refine Ml15 (0) rfl (by omega) dX8_step_17 ?_
    refine V.ei (y := nI (mo)) m8 ?_
    refine V.iload_n dX8_step_18 rfl rfl ?_
    refine V.iadd dX8_step_19 ?_
    refine V.ei (y := nI (mo + kN n)) (show _ = nI (mo + kN n) by rw [p.k.1, nI_add]; congr 2; rw [← p.k.1]) ?_
    refine V.sipush (v := nI (2000)) dX8_step_20 rfl ?_
    refine V.icmp_le (tgt := 28) dX8_step_23 (by decide) (fun c_2 => ?_) (fun c_2 => ?_)
    · have q : mo + kN n ≤ 2000 := (nI_leI (by have := p.k.2; omega) (by omega)).mp c_2
      refine V.to (lv' := [(0, .ref (o)), (1, .int (nI (kN n)))]) (st := []) (by rw [← p.k.1]) rfl rfl ?_
      refine V.iconst (v := nI (0)) dX8_step_28 rfl ?_
      refine V.istore_n (lv' := [(2, .int (nI (0))), (0, .ref (o)), (1, .int (nI (kN n)))]) dX8_step_29 rfl (by decide) rfl ?_
      refine V.pick [0, 1, 2] (lv' := [(2, .int (nI (0))), (0, .ref (o)), (1, .int (nI (kN n)))]) rfl ?_; exact loop1 9 p q 0 I (by omega) (by omega) fr.rf (fun j hj => by omega)
    · have q : ¬ mo + kN n ≤ 2000 := fun z => c_2 (nI_le z (by omega))
      refine V.iconst (v := -1) dX8_step_26 (by decide) ?_
      have hacc : ¬ (isN 1 24 n ∧ mo + kN n ≤ 2000) := (fun z => q z.2)
      exact V.iret (sc, I, J) rfl (by simp only [if_neg hacc]) (by simp only [if_neg hacc]; exact hm) rfl (by decide) (by decide) dX8_step_27
