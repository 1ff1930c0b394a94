set_option maxHeartbeats 4000000 in
set_option maxRecDepth 20000 in
theorem c_X8_goesBy (l : Launch) (G : GG) (o : Nat) (ad : Nat → Nat) (sc : Int32 × Int32 × Int32) (I : Nat → Nat → Int32) (J : Nat → Nat → Int64) (g mo co B tn ke : Nat) (E R Hv ed : Nat → Nat) (C : List Cr) (T : Nat → ST) (hg : g < 2) (htn : tn ≤ 8) (hsc : sc.2.1 = nI tn) (hke : ke = 2 ∨ ke = 3) (hT : MRg I J g T) (hi : ∀ t, t < 8 → inv mo (R t) B (T t)) (hB : B ≤ 2 ^ 48) (hR : ∀ t, t < 8 → I 8 t = nI (R t)) (hR2 : ∀ t, t < 8 → R t ≤ 50000) (hE : ∀ t, t < 8 → I 7 t = nI (E t)) (hE2 : ∀ t, t < tn → 1 ≤ E t) (hE3 : ∀ t, t < 8 → E t ≤ 1000) (hmo : I 15 g = nI mo) (hmo2 : mo ≤ 3900) (hco : J 16 g = lN co) (hco2 : co ≤ 2 ^ 50) (hC : crR I g C) (hC60 : C.length ≤ 60) (hCb : ∀ c ∈ C, c.1 < 8 ∧ c.2.1 ≤ 5000 ∧ c.2.2 ≤ 10000) (hH : (g = 0 ∧ ∀ t, t < tn → (I 9 t = nI (Hv t) ∨ (Hv t = 0 ∧ I 9 t = -1))) ∨ (g = 1 ∧ ∀ t, Hv t = 0)) (hH2 : ∀ t, t < tn → Hv t ≤ 100000) (hed : ∀ j, j < 8 → I ke j = nI (ed j)) (hed2 : ∀ j, j < 8 → ed j ≤ 9999) (hp : ed 6 ≤ 100) : Ct l G yX8_goesBy cX8_goesBy 7 none rm_X8_goesBy [.ref (o), .int (nI (g)), .ref (ad ke)] (mw G o ad sc I J) (fun u : (Nat → Nat → Int32) × (Nat → Nat → Int64) => mw G o ad sc u.1 u.2) (fun u : (Nat → Nat → Int32) × (Nat → Nat → Int64) => none) (fun u : (Nat → Nat → Int32) × (Nat → Nat → Int64) => stg I J g (mo + 1) (cleft (mo + 1) C) u.1 u.2 (mth3 tn E R Hv ed (mo + 1) co C T).1 (mthT tn E R Hv ed (mo + 1) co C T) ∧ (g = 0 → ∀ t, t < tn → u.1 9 t = -1)) := by
  refine Ct.of (by decide) (Nat.le_of_ble_eq_true rfl) (fun X A hX => ?_)
  subst hX
  refine V.to (lv' := [(0, .ref (o)), (1, .int (nI (g))), (2, .ref (ad ke))]) (st := []) (pc' := 0) rfl rfl rfl ?_
  have hM2 : mo + 1 ≤ 4000 := by omega
  have hcl : (cleft (mo + 1) C).length ≤ 60 := Nat.le_trans (List.length_filter_le _ _) hC60
  have hq3 := hed2 3 (by omega)
  have hq7 := hed2 7 (by omega)
  have v0 : ∀ t, t < 8 → inv (mo + 1) (R t) B (T t) := fun t ht => (hi t ht).mono (by omega) (Nat.le_refl _)
  have v1 : ∀ t, t < 8 → inv (mo + 1) (R t) (B + 600000) (unl R (mo + 1) C T t) := fun t ht => (inv_unl C B T v0 (fun c hc => (hCb c hc).2.2) t ht).mono (Nat.le_refl _) (by omega)
  have hHv : ∀ t, t < 8 → t < tn → Hv t ≤ 100000 := fun t _ h => hH2 t h
  have v2 : ∀ n, n ≤ tn → ∀ t, t < 8 → inv (mo + 1) (R t) (B + 700000) (s2 R Hv (mo + 1) (unl R (mo + 1) C T) n t) := by
    intro n hn t ht
    by_cases q : t < n
    · simp only [s2, mapT, if_pos q]; exact (inv_hvs (v1 t ht)).mono (Nat.le_refl _) (by have := hH2 t (by omega); omega)
    · simp only [s2, mapT, if_neg q]; exact (v1 t ht).mono (Nat.le_refl _) (by omega)
  have v3 : ∀ n t, t < 8 → inv (mo + 1) (R t) (B + 700000 + 9999) ((trdF E R ed (mo + 1) n (co, s2 R Hv (mo + 1) (unl R (mo + 1) C T) tn)).2 t) := fun n t ht => inv_trdF hq3 (v2 tn (Nat.le_refl _)) n t ht
  have v4 : ∀ n t, t < 8 → inv (mo + 1) (R t) (B + 700000 + 9999) (s4 E (mth3 tn E R Hv ed (mo + 1) co C T).2 n t) := fun n => inv_map (v3 tn) (Nat.le_refl _) (fun t ht h => inv_eat h)
  have v5 : ∀ n t, t < 8 → inv (mo + 1) (R t) (B + 700000 + 9999) (s5 ed (mo + 1) (s4 E (mth3 tn E R Hv ed (mo + 1) co C T).2 tn) n t) := fun n => inv_map (v4 tn) (Nat.le_refl _) (fun t ht h => inv_spo h hp)
  have kE : ∀ I1 : Nat → Nat → Int32, fr (pG g) I I1 → ∀ t, t < 8 → I1 7 t = nI (E t) := fun I1 hf t ht => (hf 7 t (by simp [pG, pC])).trans (hE t ht)
  have kR : ∀ I1 : Nat → Nat → Int32, fr (pG g) I I1 → ∀ t, t < 8 → I1 8 t = nI (R t) := fun I1 hf t ht => (hf 8 t (by simp [pG, pC])).trans (hR t ht)
  have kD : ∀ I1 : Nat → Nat → Int32, fr (pG g) I I1 → ∀ j, j < 8 → I1 ke j = nI (ed j) := fun I1 hf j hj => (hf ke j (by simp only [pG, pC]; omega)).trans (hed j hj)
  have loop6 : ∀ (d : Nat) (t : Nat) (I1 : Nat → Nat → Int32) (J1 : Nat → Nat → Int64), tn - t < d → t ≤ tn → (0 < t → 0 < ed 7 ∧ (mo + 1) % 12 = 0) → stg I J g (mo + 1) (cleft (mo + 1) C) I1 J1 (mth3 tn E R Hv ed (mo + 1) co C T).1 (s6 ed (mo + 1) (s5 ed (mo + 1) (s4 E (mth3 tn E R Hv ed (mo + 1) co C T).2 tn) tn) t) → (g = 0 → ∀ t, t < tn → I1 9 t = -1) → V G X yX8_goesBy cX8_goesBy 7 none rm_X8_goesBy A (MZ G X rm_X8_goesBy A (fun u : (Nat → Nat → Int32) × (Nat → Nat → Int64) => mw G o ad sc u.1 u.2) (fun u : (Nat → Nat → Int32) × (Nat → Nat → Int64) => none) (fun u : (Nat → Nat → Int32) × (Nat → Nat → Int64) => stg I J g (mo + 1) (cleft (mo + 1) C) u.1 u.2 (mth3 tn E R Hv ed (mo + 1) co C T).1 (mthT tn E R Hv ed (mo + 1) co C T) ∧ (g = 0 → ∀ t, t < tn → u.1 9 t = -1))) 0 0 (mw G o ad sc I1 J1) [(3, .int (nI (t))), (0, .ref (o)), (1, .int (nI (g))), (2, .ref (ad ke))] 170 [] := by
    intro d
    induction d with
    | zero => intro t I1 J1 hd; exact absurd hd (Nat.not_lt_zero _)
    | succ d ih =>
      intro t I1 J1 hd ht0 hpos hst h9
      refine V.iload_n dX8_goesBy_170 rfl rfl ?_
      refine V.aload_n dX8_goesBy_171 rfl rfl ?_
      refine Mg5 rfl dX8_goesBy_172 ?_
      refine V.ei (y := nI (tn)) hsc ?_
      refine V.icmp_ge (tgt := 223) dX8_goesBy_175 (by decide) (fun c_1 => ?_) (fun c_1 => ?_)
      · have hc := (nI_leI (by omega) (by omega)).mp c_1
        have he : t = tn := by omega
        have hfin : (s6 ed (mo + 1) (s5 ed (mo + 1) (s4 E (mth3 tn E R Hv ed (mo + 1) co C T).2 tn) tn) t) = (mthT tn E R Hv ed (mo + 1) co C T) := by
          unfold mthT
          by_cases q : 0 < ed 7 ∧ (mo + 1) % 12 = 0
          · rw [if_pos q]; first | (rw [he]; rfl) | (exfalso; omega)
          · rw [if_neg q]
            have z0 : t = 0 := by rcases Nat.eq_zero_or_pos t with z | z; exact z; exact absurd (hpos z) q
            rw [z0, s6, mapT_0]; rfl
        rw [hfin] at hst
        exact V.vret (I1, J1) rfl rfl ⟨hst, h9⟩ rfl (by decide) (by decide) dX8_goesBy_223
      · have hc : t < tn := by
          rcases Nat.lt_or_ge t tn with z | z
          · exact z
          · exact absurd (nI_le z (by omega)) c_1
        refine V.aload_n dX8_goesBy_178 rfl rfl ?_
        refine V.bipush (v := nI (7)) dX8_goesBy_179 rfl ?_
        refine Mle hke (7) rfl (by omega) dX8_goesBy_181 ?_
        refine V.ei (y := nI (ed 7)) (kD I1 hst.2.2.2.2.1 7 (by omega)) ?_
        refine V.if_le (tgt := 223) dX8_goesBy_182 (by decide) (fun c_2 => ?_) (fun c_2 => ?_)
        · have hz : ¬ 0 < ed 7 := fun z => nI_nle z (by omega) c_2
          have ht1 : t = 0 := by rcases Nat.eq_zero_or_pos t with z | z; exact z; exact absurd (hpos z).1 hz
          have hfin : (s6 ed (mo + 1) (s5 ed (mo + 1) (s4 E (mth3 tn E R Hv ed (mo + 1) co C T).2 tn) tn) t) = (mthT tn E R Hv ed (mo + 1) co C T) := by
            unfold mthT
            by_cases q : 0 < ed 7 ∧ (mo + 1) % 12 = 0
            · rw [if_pos q]; first | (rw [he]; rfl) | (exfalso; omega)
            · rw [if_neg q]
              have z0 : t = 0 := by rcases Nat.eq_zero_or_pos t with z | z; exact z; exact absurd (hpos z) q
              rw [z0, s6, mapT_0]; rfl
          rw [hfin] at hst
          exact V.vret (I1, J1) rfl rfl ⟨hst, h9⟩ rfl (by decide) (by decide) dX8_goesBy_223
        · have hz : 1 ≤ ed 7 := by
            rcases Nat.eq_zero_or_pos (ed 7) with z | z
            · exact absurd (by rw [z]; decide) c_2
            · exact z
          refine V.aload_n dX8_goesBy_185 rfl rfl ?_
          refine Mg15 rfl dX8_goesBy_186 ?_
          refine V.iload_n dX8_goesBy_189 rfl rfl ?_
          refine Ml15 (g) rfl (by omega) dX8_goesBy_190 ?_
          refine V.ei (y := nI (mo + 1)) hst.2.2.1 ?_
          refine V.bipush (v := nI (12)) dX8_goesBy_191 rfl ?_
          refine V.irem dX8_goesBy_193 (by decide) ?_
          refine V.ei (y := nI ((mo + 1) % 12)) (pk_rem (by omega) (by omega) (by omega)) ?_
          refine V.if_ne (tgt := 223) dX8_goesBy_194 (by decide) (fun c_3 => ?_) (fun c_3 => ?_)
          · have hz2 : ¬ (mo + 1) % 12 = 0 := fun z => c_3 (by rw [z]; rfl)
            have ht1 : t = 0 := by rcases Nat.eq_zero_or_pos t with z | z; exact z; exact absurd (hpos z).2 hz2
            have hfin : (s6 ed (mo + 1) (s5 ed (mo + 1) (s4 E (mth3 tn E R Hv ed (mo + 1) co C T).2 tn) tn) t) = (mthT tn E R Hv ed (mo + 1) co C T) := by
              unfold mthT
              by_cases q : 0 < ed 7 ∧ (mo + 1) % 12 = 0
              · rw [if_pos q]; first | (rw [he]; rfl) | (exfalso; omega)
              · rw [if_neg q]
                have z0 : t = 0 := by rcases Nat.eq_zero_or_pos t with z | z; exact z; exact absurd (hpos z) q
                rw [z0, s6, mapT_0]; rfl
            rw [hfin] at hst
            exact V.vret (I1, J1) rfl rfl ⟨hst, h9⟩ rfl (by decide) (by decide) dX8_goesBy_223
          · have hz2 : (mo + 1) % 12 = 0 := (nI_eq (b := 0) (by omega) (by omega)).mp c_3
            have ht8 : t < 8 := by omega
            refine V.aload_n dX8_goesBy_197 rfl rfl ?_
            refine V.bipush (v := nI (8)) dX8_goesBy_198 rfl ?_
            refine V.iload_n dX8_goesBy_200 rfl rfl ?_
            refine V.imul dX8_goesBy_201 ?_
            refine V.ei (pk_mul _ _) ?_
            refine V.iload_n dX8_goesBy_202 rfl rfl ?_
            refine V.iadd dX8_goesBy_203 ?_
            refine V.ei (nI_add _ _) ?_
            refine V.aload_n dX8_goesBy_204 rfl rfl ?_
            refine Mg15 rfl dX8_goesBy_205 ?_
            refine V.iload_n dX8_goesBy_208 rfl rfl ?_
            refine Ml15 (g) rfl (by omega) dX8_goesBy_209 ?_
            refine V.ei (y := nI (mo + 1)) hst.2.2.1 ?_
            refine V.aload_n dX8_goesBy_210 rfl rfl ?_
            refine V.bipush (v := nI (7)) dX8_goesBy_211 rfl ?_
            refine Mle hke (7) rfl (by omega) dX8_goesBy_213 ?_
            refine V.ei (y := nI (ed 7)) (kD I1 hst.2.2.2.2.1 7 (by omega)) ?_
            refine V.callV0 (c_X8_turns _ G o ad sc I1 J1 (8 * g + t) (R t) (mo + 1) (ed 7) ((s6 ed (mo + 1) (s5 ed (mo + 1) (s4 E (mth3 tn E R Hv ed (mo + 1) co C T).2 tn) tn) t) t) (by omega) (hst.1 t ht8) ((inv_map (n := t) (v5 tn) (Nat.le_refl _) (fun t ht h => inv_trn h hz) t ht8).okS (hR2 t ht8) hM2 (by omega)) hM2 hz hq7) [] 0 9 rfl rfl rfl rfl (goodV kM_X8_209 kI_X8_turns kV_X8_turns kN_X8 kC_X8_turns) ds_X8_turns (by decide) (Nat.le_of_ble_eq_true rfl) dX8_goesBy_214 (by decide) (fun u hu => ?_)
            refine V.to (lv' := [(3, .int (nI (t))), (0, .ref (o)), (1, .int (nI (g))), (2, .ref (ad ke))]) (st := []) (pc' := 217) rfl rfl rfl ?_
            refine V.iinc (k := 0) (v := nI (t + 1)) (lv' := [(3, .int (nI (t + 1))), (0, .ref (o)), (1, .int (nI (g))), (2, .ref (ad ke))]) dX8_goesBy_217 rfl (iinc1 _) (by decide) rfl ?_
            refine V.goto (tgt := 170) dX8_goesBy_220 (by decide) ?_
            refine V.pick [0, 1, 2, 3] (lv' := [(3, .int (nI (t + 1))), (0, .ref (o)), (1, .int (nI (g))), (2, .ref (ad ke))]) rfl ?_; exact ih (t + 1) u.1 u.2 (by omega) (by omega) (fun _ => ⟨hz, hz2⟩) (by rw [s6, mapT_s]; exact stg_up hst ht8 hcl (fun t ht => (inv_map (v5 tn) (Nat.le_refl _) (fun t ht h => inv_trn h hz) t ht).1) hu.2.1.l hu.2.2.l hu.1 ((hu.2.2 16 g (by simp [pX])).trans hst.2.1)) (fun z q hq => (hu.2.1 9 q (by simp [pS])).trans (h9 z q hq))
  have loop5 : ∀ (d : Nat) (t : Nat) (I1 : Nat → Nat → Int32) (J1 : Nat → Nat → Int64), tn - t < d → t ≤ tn → stg I J g (mo + 1) (cleft (mo + 1) C) I1 J1 (mth3 tn E R Hv ed (mo + 1) co C T).1 (s5 ed (mo + 1) (s4 E (mth3 tn E R Hv ed (mo + 1) co C T).2 tn) t) → (g = 0 → ∀ t, t < tn → I1 9 t = -1) → V G X yX8_goesBy cX8_goesBy 7 none rm_X8_goesBy A (MZ G X rm_X8_goesBy A (fun u : (Nat → Nat → Int32) × (Nat → Nat → Int64) => mw G o ad sc u.1 u.2) (fun u : (Nat → Nat → Int32) × (Nat → Nat → Int64) => none) (fun u : (Nat → Nat → Int32) × (Nat → Nat → Int64) => stg I J g (mo + 1) (cleft (mo + 1) C) u.1 u.2 (mth3 tn E R Hv ed (mo + 1) co C T).1 (mthT tn E R Hv ed (mo + 1) co C T) ∧ (g = 0 → ∀ t, t < tn → u.1 9 t = -1))) 0 0 (mw G o ad sc I1 J1) [(3, .int (nI (t))), (0, .ref (o)), (1, .int (nI (g))), (2, .ref (ad ke))] 137 [] := by
    intro d
    induction d with
    | zero => intro t I1 J1 hd; exact absurd hd (Nat.not_lt_zero _)
    | succ d ih =>
      intro t I1 J1 hd ht0 hst h9
      refine V.iload_n dX8_goesBy_137 rfl rfl ?_
      refine V.aload_n dX8_goesBy_138 rfl rfl ?_
      refine Mg5 rfl dX8_goesBy_139 ?_
      refine V.ei (y := nI (tn)) hsc ?_
      refine V.icmp_ge (tgt := 168) dX8_goesBy_142 (by decide) (fun c_1 => ?_) (fun c_1 => ?_)
      · have hc := (nI_leI (by omega) (by omega)).mp c_1
        have he : t = tn := by omega
        refine V.iconst (v := nI (0)) dX8_goesBy_168 rfl ?_
        refine V.istore_n (lv' := [(3, .int (nI (0))), (0, .ref (o)), (1, .int (nI (g))), (2, .ref (ad ke))]) dX8_goesBy_169 rfl (by decide) rfl ?_
        refine V.pick [0, 1, 2, 3] (lv' := [(3, .int (nI (0))), (0, .ref (o)), (1, .int (nI (g))), (2, .ref (ad ke))]) rfl ?_; exact loop6 (tn + 1) 0 I1 J1 (by omega) (by omega) (by omega) (by rw [s6, mapT_0]; rw [he] at hst; exact hst) h9
      · have hc : t < tn := by
          rcases Nat.lt_or_ge t tn with z | z
          · exact z
          · exact absurd (nI_le z (by omega)) c_1
        have ht8 : t < 8 := by omega
        refine V.aload_n dX8_goesBy_145 rfl rfl ?_
        refine V.bipush (v := nI (8)) dX8_goesBy_146 rfl ?_
        refine V.iload_n dX8_goesBy_148 rfl rfl ?_
        refine V.imul dX8_goesBy_149 ?_
        refine V.ei (pk_mul _ _) ?_
        refine V.iload_n dX8_goesBy_150 rfl rfl ?_
        refine V.iadd dX8_goesBy_151 ?_
        refine V.ei (nI_add _ _) ?_
        refine V.aload_n dX8_goesBy_152 rfl rfl ?_
        refine Mg15 rfl dX8_goesBy_153 ?_
        refine V.iload_n dX8_goesBy_156 rfl rfl ?_
        refine Ml15 (g) rfl (by omega) dX8_goesBy_157 ?_
        refine V.ei (y := nI (mo + 1)) hst.2.2.1 ?_
        refine V.aload_n dX8_goesBy_158 rfl rfl ?_
        refine V.callV0 (c_X8_spoils _ G o ad sc I1 J1 (8 * g + t) (R t) (mo + 1) ke ed ((s5 ed (mo + 1) (s4 E (mth3 tn E R Hv ed (mo + 1) co C T).2 tn) t) t) (by omega) hke (hst.1 t ht8) ((v5 t t ht8).okS (hR2 t ht8) hM2 (by omega)) hM2 (mths_mem (v5 t t ht8).2.2.2.2.1) (kD I1 hst.2.2.2.2.1) hed2 hp) [] 0 9 rfl rfl rfl rfl (goodV kM_X8_206 kI_X8_spoils kV_X8_spoils kN_X8 kC_X8_spoils) ds_X8_spoils (by decide) (Nat.le_of_ble_eq_true rfl) dX8_goesBy_159 (by decide) (fun u hu => ?_)
        refine V.to (lv' := [(3, .int (nI (t))), (0, .ref (o)), (1, .int (nI (g))), (2, .ref (ad ke))]) (st := []) (pc' := 162) rfl rfl rfl ?_
        refine V.iinc (k := 0) (v := nI (t + 1)) (lv' := [(3, .int (nI (t + 1))), (0, .ref (o)), (1, .int (nI (g))), (2, .ref (ad ke))]) dX8_goesBy_162 rfl (iinc1 _) (by decide) rfl ?_
        refine V.goto (tgt := 137) dX8_goesBy_165 (by decide) ?_
        refine V.pick [0, 1, 2, 3] (lv' := [(3, .int (nI (t + 1))), (0, .ref (o)), (1, .int (nI (g))), (2, .ref (ad ke))]) rfl ?_; exact ih (t + 1) u.1 u.2 (by omega) (by omega) (by rw [s5, mapT_s]; exact stg_up hst ht8 hcl (fun q hq => (v5 t q hq).1) hu.2.1.l hu.2.2.l hu.1 ((hu.2.2 16 g (by simp [pX])).trans hst.2.1)) (fun z q hq => (hu.2.1 9 q (by simp [pS])).trans (h9 z q hq))
  have loop4 : ∀ (d : Nat) (t : Nat) (I1 : Nat → Nat → Int32) (J1 : Nat → Nat → Int64), tn - t < d → t ≤ tn → stg I J g (mo + 1) (cleft (mo + 1) C) I1 J1 (mth3 tn E R Hv ed (mo + 1) co C T).1 (s4 E (mth3 tn E R Hv ed (mo + 1) co C T).2 t) → (g = 0 → ∀ t, t < tn → I1 9 t = -1) → V G X yX8_goesBy cX8_goesBy 7 none rm_X8_goesBy A (MZ G X rm_X8_goesBy A (fun u : (Nat → Nat → Int32) × (Nat → Nat → Int64) => mw G o ad sc u.1 u.2) (fun u : (Nat → Nat → Int32) × (Nat → Nat → Int64) => none) (fun u : (Nat → Nat → Int32) × (Nat → Nat → Int64) => stg I J g (mo + 1) (cleft (mo + 1) C) u.1 u.2 (mth3 tn E R Hv ed (mo + 1) co C T).1 (mthT tn E R Hv ed (mo + 1) co C T) ∧ (g = 0 → ∀ t, t < tn → u.1 9 t = -1))) 0 0 (mw G o ad sc I1 J1) [(3, .int (nI (t))), (0, .ref (o)), (1, .int (nI (g))), (2, .ref (ad ke))] 62 [] := by
    intro d
    induction d with
    | zero => intro t I1 J1 hd; exact absurd hd (Nat.not_lt_zero _)
    | succ d ih =>
      intro t I1 J1 hd ht0 hst h9
      refine V.iload_n dX8_goesBy_62 rfl rfl ?_
      refine V.aload_n dX8_goesBy_63 rfl rfl ?_
      refine Mg5 rfl dX8_goesBy_64 ?_
      refine V.ei (y := nI (tn)) hsc ?_
      refine V.icmp_ge (tgt := 135) dX8_goesBy_67 (by decide) (fun c_1 => ?_) (fun c_1 => ?_)
      · have hc := (nI_leI (by omega) (by omega)).mp c_1
        have he : t = tn := by omega
        refine V.iconst (v := nI (0)) dX8_goesBy_135 rfl ?_
        refine V.istore_n (lv' := [(3, .int (nI (0))), (0, .ref (o)), (1, .int (nI (g))), (2, .ref (ad ke))]) dX8_goesBy_136 rfl (by decide) rfl ?_
        refine V.pick [0, 1, 2, 3] (lv' := [(3, .int (nI (0))), (0, .ref (o)), (1, .int (nI (g))), (2, .ref (ad ke))]) rfl ?_; exact loop5 (tn + 1) 0 I1 J1 (by omega) (by omega) (by rw [s5, mapT_0]; rw [he] at hst; exact hst) h9
      · have hc : t < tn := by
          rcases Nat.lt_or_ge t tn with z | z
          · exact z
          · exact absurd (nI_le z (by omega)) c_1
        have ht8 : t < 8 := by omega
        have hmk := (v4 t t ht8).2.2.1
        have hEt := hE3 t ht8
        refine V.bipush (v := nI (8)) dX8_goesBy_70 rfl ?_
        refine V.iload_n dX8_goesBy_72 rfl rfl ?_
        refine V.imul dX8_goesBy_73 ?_
        refine V.ei (pk_mul _ _) ?_
        refine V.iload_n dX8_goesBy_74 rfl rfl ?_
        refine V.iadd dX8_goesBy_75 ?_
        refine V.ei (nI_add _ _) ?_
        refine V.istore (lv' := [(4, .int (nI (((8) * (g)) + (t)))), (3, .int (nI (t))), (0, .ref (o)), (1, .int (nI (g))), (2, .ref (ad ke))]) dX8_goesBy_76 (by decide) rfl ?_
        refine V.aload_n dX8_goesBy_78 rfl rfl ?_
        refine Mg7 rfl dX8_goesBy_79 ?_
        refine V.iload_n dX8_goesBy_82 rfl rfl ?_
        refine Ml7 (t) rfl (by omega) dX8_goesBy_83 ?_
        refine V.ei (y := nI (E t)) (kE I1 hst.2.2.2.2.1 t ht8) ?_
        refine V.i2l (v := lN (E t)) dX8_goesBy_84 (nI_l (by omega)) ?_
        refine V.aload_n dX8_goesBy_85 rfl rfl ?_
        refine Mg21 rfl dX8_goesBy_86 ?_
        refine V.iload dX8_goesBy_89 rfl ?_
        refine Ml21 (((8) * (g)) + (t)) rfl (by omega) dX8_goesBy_91 ?_
        refine V.el (y := lN (((s4 E (mth3 tn E R Hv ed (mo + 1) co C T).2 t) t).1.1)) (hst.1 t ht8).1 ?_
        refine V.callSE (c_X8_least _ G (lN (E t)) (lN (((s4 E (mth3 tn E R Hv ed (mo + 1) co C T).2 t) t).1.1))) [] rfl (goodS kM_X8_177 kS_X8_least kN_X8 kC_X8_least) ds_X8_least (by decide) (Nat.le_of_ble_eq_true rfl) dX8_goesBy_92 (by decide) (fun u hu => ?_)
        refine V.to (lv' := [(4, .int (nI (((8) * (g)) + (t)))), (3, .int (nI (t))), (0, .ref (o)), (1, .int (nI (g))), (2, .ref (ad ke))]) (st := [.long (if lN (E t) < lN (((s4 E (mth3 tn E R Hv ed (mo + 1) co C T).2 t) t).1.1) then lN (E t) else lN (((s4 E (mth3 tn E R Hv ed (mo + 1) co C T).2 t) t).1.1))]) (pc' := 95) rfl rfl rfl ?_
        refine V.el (leastN (by omega) (by omega)) ?_
        obtain ⟨n, hn⟩ : ∃ n, min (E t) ((s4 E (mth3 tn E R Hv ed (mo + 1) co C T).2 t) t).1.1 = n := ⟨_, rfl⟩
        have hnn : n ≤ E t ∧ n ≤ ((s4 E (mth3 tn E R Hv ed (mo + 1) co C T).2 t) t).1.1 := by rw [← hn]; omega
        refine V.el (y := lN (n)) (by rw [← hn]) ?_
        refine V.lstore (lv' := [(5, .long (lN (n))), (4, .int (nI (((8) * (g)) + (t)))), (3, .int (nI (t))), (0, .ref (o)), (1, .int (nI (g))), (2, .ref (ad ke))]) dX8_goesBy_95 (by decide) rfl ?_
        refine V.aload_n dX8_goesBy_97 rfl rfl ?_
        refine Mg21 rfl dX8_goesBy_98 ?_
        refine V.iload dX8_goesBy_101 rfl ?_
        refine V.dup2_11 dX8_goesBy_103 rfl rfl ?_
        refine Ml21 (((8) * (g)) + (t)) rfl (by omega) dX8_goesBy_104 ?_
        refine V.el (y := lN (((s4 E (mth3 tn E R Hv ed (mo + 1) co C T).2 t) t).1.1)) (hst.1 t ht8).1 ?_
        refine V.lload dX8_goesBy_105 rfl ?_
        refine V.lsub dX8_goesBy_107 ?_
        refine V.el (y := lN (((s4 E (mth3 tn E R Hv ed (mo + 1) co C T).2 t) t).1.1 - n)) (lN_sub hnn.2) ?_
        refine Ms21 (((8) * (g)) + (t)) rfl (by omega) dX8_goesBy_108 ?_
        refine V.aload_n dX8_goesBy_109 rfl rfl ?_
        refine Mg24 rfl dX8_goesBy_110 ?_
        refine V.iload dX8_goesBy_113 rfl ?_
        refine V.dup2_11 dX8_goesBy_115 rfl rfl ?_
        refine Ml24 (((8) * (g)) + (t)) rfl (by omega) dX8_goesBy_116 ?_
        refine V.el (y := ((s4 E (mth3 tn E R Hv ed (mo + 1) co C T).2 t) t).2.1.1) (hst.1 t ht8).2.2.1 ?_
        refine V.aload_n dX8_goesBy_117 rfl rfl ?_
        refine Mg7 rfl dX8_goesBy_118 ?_
        refine V.iload_n dX8_goesBy_121 rfl rfl ?_
        refine Ml7 (t) rfl (by omega) dX8_goesBy_122 ?_
        refine V.ei (y := nI (E t)) (kE I1 hst.2.2.2.2.1 t ht8) ?_
        refine V.i2l (v := lN (E t)) dX8_goesBy_123 (nI_l (by omega)) ?_
        refine V.lload dX8_goesBy_124 rfl ?_
        refine V.lsub dX8_goesBy_126 ?_
        refine V.el (y := lN (E t - n)) (lN_sub hnn.1) ?_
        refine V.ladd dX8_goesBy_127 ?_
        refine Ms24 (((8) * (g)) + (t)) rfl (by omega) dX8_goesBy_128 ?_
        refine V.iinc (k := 2) (v := nI (t + 1)) (lv' := [(3, .int (nI (t + 1))), (5, .long (lN (n))), (4, .int (nI (((8) * (g)) + (t)))), (0, .ref (o)), (1, .int (nI (g))), (2, .ref (ad ke))]) dX8_goesBy_129 rfl (iinc1 _) (by decide) rfl ?_
        refine V.goto (tgt := 62) dX8_goesBy_132 (by decide) ?_
        refine V.pick [0, 3, 4, 5] (lv' := [(3, .int (nI (t + 1))), (0, .ref (o)), (1, .int (nI (g))), (2, .ref (ad ke))]) rfl ?_; exact ih (t + 1) _ _ (by omega) (by omega) (by rw [show s4 E (mth3 tn E R Hv ed (mo + 1) co C T).2 (t + 1) = upf (s4 E (mth3 tn E R Hv ed (mo + 1) co C T).2 t) t (eat (E t) ((s4 E (mth3 tn E R Hv ed (mo + 1) co C T).2 t) t)) from mapT_s _ _ _]; exact stg_up hst ht8 hcl (fun q hq => (v4 t q hq).1) fr.rf ((fr.up (Or.inl ⟨by omega, by omega, rfl⟩)).tr (fr.up (Or.inl ⟨by omega, by omega, rfl⟩))) (show slotR _ _ _ (eat (E t) ((s4 E (mth3 tn E R Hv ed (mo + 1) co C T).2 t) t)) from by rw [show eat (E t) ((s4 E (mth3 tn E R Hv ed (mo + 1) co C T).2 t) t) = ((((s4 E (mth3 tn E R Hv ed (mo + 1) co C T).2 t) t).1.1 - n, ((s4 E (mth3 tn E R Hv ed (mo + 1) co C T).2 t) t).1.2), (((s4 E (mth3 tn E R Hv ed (mo + 1) co C T).2 t) t).2.1.1 + lN (E t - n), ((s4 E (mth3 tn E R Hv ed (mo + 1) co C T).2 t) t).2.1.2), ((s4 E (mth3 tn E R Hv ed (mo + 1) co C T).2 t) t).2.2) by rw [eat, hn]]; exact ⟨(by simp [up2]), (hst.1 t ht8).2.1, (by simp [up2]), (hst.1 t ht8).2.2.2.1, (hst.1 t ht8).2.2.2.2.1, (hst.1 t ht8).2.2.2.2.2.1, (hst.1 t ht8).2.2.2.2.2.2.1, (hst.1 t ht8).2.2.2.2.2.2.2.1, (hst.1 t ht8).2.2.2.2.2.2.2.2⟩) hst.2.1) h9
  have loop3 : ∀ (d : Nat) (t : Nat) (I1 : Nat → Nat → Int32) (J1 : Nat → Nat → Int64), tn - t < d → t ≤ tn → stg I J g (mo + 1) (cleft (mo + 1) C) I1 J1 (trdF E R ed (mo + 1) t (co, s2 R Hv (mo + 1) (unl R (mo + 1) C T) tn)).1 (trdF E R ed (mo + 1) t (co, s2 R Hv (mo + 1) (unl R (mo + 1) C T) tn)).2 → (g = 0 → ∀ t, t < tn → I1 9 t = -1) → V G X yX8_goesBy cX8_goesBy 7 none rm_X8_goesBy A (MZ G X rm_X8_goesBy A (fun u : (Nat → Nat → Int32) × (Nat → Nat → Int64) => mw G o ad sc u.1 u.2) (fun u : (Nat → Nat → Int32) × (Nat → Nat → Int64) => none) (fun u : (Nat → Nat → Int32) × (Nat → Nat → Int64) => stg I J g (mo + 1) (cleft (mo + 1) C) u.1 u.2 (mth3 tn E R Hv ed (mo + 1) co C T).1 (mthT tn E R Hv ed (mo + 1) co C T) ∧ (g = 0 → ∀ t, t < tn → u.1 9 t = -1))) 0 0 (mw G o ad sc I1 J1) [(3, .int (nI (t))), (0, .ref (o)), (1, .int (nI (g))), (2, .ref (ad ke))] 39 [] := by
    intro d
    induction d with
    | zero => intro t I1 J1 hd; exact absurd hd (Nat.not_lt_zero _)
    | succ d ih =>
      intro t I1 J1 hd ht0 hst h9
      refine V.iload_n dX8_goesBy_39 rfl rfl ?_
      refine V.aload_n dX8_goesBy_40 rfl rfl ?_
      refine Mg5 rfl dX8_goesBy_41 ?_
      refine V.ei (y := nI (tn)) hsc ?_
      refine V.icmp_ge (tgt := 60) dX8_goesBy_44 (by decide) (fun c_1 => ?_) (fun c_1 => ?_)
      · have hc := (nI_leI (by omega) (by omega)).mp c_1
        have he : t = tn := by omega
        refine V.iconst (v := nI (0)) dX8_goesBy_60 rfl ?_
        refine V.istore_n (lv' := [(3, .int (nI (0))), (0, .ref (o)), (1, .int (nI (g))), (2, .ref (ad ke))]) dX8_goesBy_61 rfl (by decide) rfl ?_
        refine V.pick [0, 1, 2, 3] (lv' := [(3, .int (nI (0))), (0, .ref (o)), (1, .int (nI (g))), (2, .ref (ad ke))]) rfl ?_; exact loop4 (tn + 1) 0 I1 J1 (by omega) (by omega) (by rw [s4, mapT_0]; rw [he] at hst; exact hst) h9
      · have hc : t < tn := by
          rcases Nat.lt_or_ge t tn with z | z
          · exact z
          · exact absurd (nI_le z (by omega)) c_1
        have ht8 : t < 8 := by omega
        have hcb := trdF_co (E := E) (R := R) (mo := mo + 1) (co, s2 R Hv (mo + 1) (unl R (mo + 1) C T) tn) hq3 t
        refine V.aload_n dX8_goesBy_47 rfl rfl ?_
        refine V.iload_n dX8_goesBy_48 rfl rfl ?_
        refine V.iload_n dX8_goesBy_49 rfl rfl ?_
        refine V.aload_n dX8_goesBy_50 rfl rfl ?_
        refine V.callV0 (c_X8_trades _ G o ad sc I1 J1 g t (R t) (E t) (mo + 1) (trdF E R ed (mo + 1) t (co, s2 R Hv (mo + 1) (unl R (mo + 1) C T) tn)).1 ke ed ((trdF E R ed (mo + 1) t (co, s2 R Hv (mo + 1) (unl R (mo + 1) C T) tn)).2 t) hg ht8 hke (hst.1 t ht8) ((v3 t t ht8).okS (hR2 t ht8) hM2 (by omega)) (kR I1 hst.2.2.2.2.1 t ht8) (hR2 t ht8) (kE I1 hst.2.2.2.2.1 t ht8) (hE2 t hc) (hE3 t ht8) hst.2.2.1 hM2 hst.2.1 (by have : co ≤ 2 ^ 50 := hco2; have h2 : (trdF E R ed (mo + 1) t (co, s2 R Hv (mo + 1) (unl R (mo + 1) C T) tn)).1 ≤ co + 10000000 * t := hcb; omega) (kD I1 hst.2.2.2.2.1) hed2) [] 0 9 rfl rfl rfl rfl (goodV kM_X8_202 kI_X8_trades kV_X8_trades kN_X8 kC_X8_trades) ds_X8_trades (by decide) (Nat.le_of_ble_eq_true rfl) dX8_goesBy_51 (by decide) (fun u hu => ?_)
        refine V.to (lv' := [(3, .int (nI (t))), (0, .ref (o)), (1, .int (nI (g))), (2, .ref (ad ke))]) (st := []) (pc' := 54) rfl rfl rfl ?_
        refine V.iinc (k := 0) (v := nI (t + 1)) (lv' := [(3, .int (nI (t + 1))), (0, .ref (o)), (1, .int (nI (g))), (2, .ref (ad ke))]) dX8_goesBy_54 rfl (iinc1 _) (by decide) rfl ?_
        refine V.goto (tgt := 39) dX8_goesBy_57 (by decide) ?_
        refine V.pick [0, 1, 2, 3] (lv' := [(3, .int (nI (t + 1))), (0, .ref (o)), (1, .int (nI (g))), (2, .ref (ad ke))]) rfl ?_; exact ih (t + 1) u.1 u.2 (by omega) (by omega) (by rw [trdF]; exact stg_up hst ht8 hcl (fun q hq => (v3 t q hq).1) hu.2.2.1.l hu.2.2.2 hu.1 hu.2.1) (fun z q hq => (hu.2.2.1 9 q (by simp [pS])).trans (h9 z q hq))
  have loop2 : ∀ (d : Nat) (t : Nat) (I1 : Nat → Nat → Int32) (J1 : Nat → Nat → Int64), tn - t < d → t ≤ tn → stg I J g (mo + 1) (cleft (mo + 1) C) I1 J1 co (s2 R Hv (mo + 1) (unl R (mo + 1) C T) t) → (g = 0 → ∀ q, q < t → I1 9 q = -1) → (∀ q, t ≤ q → I1 9 q = I 9 q) → V G X yX8_goesBy cX8_goesBy 7 none rm_X8_goesBy A (MZ G X rm_X8_goesBy A (fun u : (Nat → Nat → Int32) × (Nat → Nat → Int64) => mw G o ad sc u.1 u.2) (fun u : (Nat → Nat → Int32) × (Nat → Nat → Int64) => none) (fun u : (Nat → Nat → Int32) × (Nat → Nat → Int64) => stg I J g (mo + 1) (cleft (mo + 1) C) u.1 u.2 (mth3 tn E R Hv ed (mo + 1) co C T).1 (mthT tn E R Hv ed (mo + 1) co C T) ∧ (g = 0 → ∀ t, t < tn → u.1 9 t = -1))) 0 0 (mw G o ad sc I1 J1) [(3, .int (nI (t))), (0, .ref (o)), (1, .int (nI (g))), (2, .ref (ad ke))] 17 [] := by
    intro d
    induction d with
    | zero => intro t I1 J1 hd; exact absurd hd (Nat.not_lt_zero _)
    | succ d ih =>
      intro t I1 J1 hd ht0 hst h9a h9b
      refine V.iload_n dX8_goesBy_17 rfl rfl ?_
      refine V.aload_n dX8_goesBy_18 rfl rfl ?_
      refine Mg5 rfl dX8_goesBy_19 ?_
      refine V.ei (y := nI (tn)) hsc ?_
      refine V.icmp_ge (tgt := 37) dX8_goesBy_22 (by decide) (fun c_1 => ?_) (fun c_1 => ?_)
      · have hc := (nI_leI (by omega) (by omega)).mp c_1
        have he : t = tn := by omega
        refine V.iconst (v := nI (0)) dX8_goesBy_37 rfl ?_
        refine V.istore_n (lv' := [(3, .int (nI (0))), (0, .ref (o)), (1, .int (nI (g))), (2, .ref (ad ke))]) dX8_goesBy_38 rfl (by decide) rfl ?_
        refine V.pick [0, 1, 2, 3] (lv' := [(3, .int (nI (0))), (0, .ref (o)), (1, .int (nI (g))), (2, .ref (ad ke))]) rfl ?_; exact loop3 (tn + 1) 0 I1 J1 (by omega) (by omega) (by rw [he] at hst; exact hst) (fun z q hq => h9a z q (by omega))
      · have hc : t < tn := by
          rcases Nat.lt_or_ge t tn with z | z
          · exact z
          · exact absurd (nI_le z (by omega)) c_1
        have ht8 : t < 8 := by omega
        refine V.aload_n dX8_goesBy_25 rfl rfl ?_
        refine V.iload_n dX8_goesBy_26 rfl rfl ?_
        refine V.iload_n dX8_goesBy_27 rfl rfl ?_
        refine V.callV0 (c_X8_harvests _ G o ad sc I1 J1 g t (R t) (mo + 1) (Hv t) ((s2 R Hv (mo + 1) (unl R (mo + 1) C T) t) t) hg ht8 (hst.1 t ht8) ((v2 t ht0 t ht8).okS (hR2 t ht8) hM2 (by omega)) (kR I1 hst.2.2.2.2.1 t ht8) (hR2 t ht8) hst.2.2.1 hM2 (by rcases hH with z | z; exact Or.inl ⟨z.1, by rw [h9b t (Nat.le_refl _)]; exact z.2 t hc⟩; exact Or.inr ⟨z.1, z.2 t⟩) (hH2 t hc)) [] 0 9 rfl rfl rfl rfl (goodV kM_X8_199 kI_X8_harvests kV_X8_harvests kN_X8 kC_X8_harvests) ds_X8_harvests (by decide) (Nat.le_of_ble_eq_true rfl) dX8_goesBy_28 (by decide) (fun u hu => ?_)
        refine V.to (lv' := [(3, .int (nI (t))), (0, .ref (o)), (1, .int (nI (g))), (2, .ref (ad ke))]) (st := []) (pc' := 31) rfl rfl rfl ?_
        refine V.iinc (k := 0) (v := nI (t + 1)) (lv' := [(3, .int (nI (t + 1))), (0, .ref (o)), (1, .int (nI (g))), (2, .ref (ad ke))]) dX8_goesBy_31 rfl (iinc1 _) (by decide) rfl ?_
        refine V.goto (tgt := 17) dX8_goesBy_34 (by decide) ?_
        refine V.pick [0, 1, 2, 3] (lv' := [(3, .int (nI (t + 1))), (0, .ref (o)), (1, .int (nI (g))), (2, .ref (ad ke))]) rfl ?_; exact ih (t + 1) u.1 u.2 (by omega) (by omega) (by rw [s2, mapT_s]; exact stg_up hst ht8 hcl (fun q hq => (v2 t ht0 q hq).1) hu.2.1 hu.2.2.1.l hu.1 ((hu.2.2.1 16 g (by simp [pX])).trans hst.2.1)) (fun z q hq => by
          by_cases e : q = t
          · subst e; exact hu.2.2.2 z
          · exact (hu.2.1 9 q (by simp only [pS]; omega)).trans (h9a z q (by omega))) (fun q hq => (hu.2.1 9 q (by simp only [pS]; omega)).trans (h9b q (by omega)))
  refine V.aload_n dX8_goesBy_0 rfl rfl ?_
  refine Mg15 rfl dX8_goesBy_1 ?_
  refine V.iload_n dX8_goesBy_4 rfl rfl ?_
  refine V.dup2_11 dX8_goesBy_5 rfl rfl ?_
  refine Ml15 (g) rfl (by omega) dX8_goesBy_6 ?_
  refine V.ei (y := nI (mo)) hmo ?_
  refine V.iconst (v := nI (1)) dX8_goesBy_7 rfl ?_
  refine V.iadd dX8_goesBy_8 ?_
  refine V.ei (nI_add _ _) ?_
  refine Ms15 (g) rfl (by omega) dX8_goesBy_9 ?_
  refine V.aload_n dX8_goesBy_10 rfl rfl ?_
  refine V.iload_n dX8_goesBy_11 rfl rfl ?_
  refine V.callV0 (c_X8_cartsCome _ G o ad sc (up2 I 15 g (nI ((mo) + (1)))) J g (mo + 1) B R C T hg (MRg_keep (P := fun k j => k = 15 ∧ j = g) (P' := fun _ _ => False) hT (fun t ht => (hi t ht).1) (fr.up ⟨rfl, rfl⟩) fr.rf (fun k j z => by omega) (fun k j z => z.elim)) v0 hB (fun t ht => hR t ht) hR2 (up2_s _ _ _ _) hM2 (crR_fr (fr.up (P := fun k j => k = 15 ∧ j = g) ⟨rfl, rfl⟩) hC hC60 (by omega) (by intros; omega)) hC60 hCb) [] 0 9 rfl rfl rfl rfl (goodV kM_X8_196 kI_X8_cartsCome kV_X8_cartsCome kN_X8 kC_X8_cartsCome) ds_X8_cartsCome (by decide) (Nat.le_of_ble_eq_true rfl) dX8_goesBy_12 (by decide) (fun u hu => ?_)
  refine V.to (lv' := [(0, .ref (o)), (1, .int (nI (g))), (2, .ref (ad ke))]) (st := []) (pc' := 15) rfl rfl rfl ?_
  refine V.iconst (v := nI (0)) dX8_goesBy_15 rfl ?_
  refine V.istore_n (lv' := [(3, .int (nI (0))), (0, .ref (o)), (1, .int (nI (g))), (2, .ref (ad ke))]) dX8_goesBy_16 rfl (by decide) rfl ?_
  refine V.pick [0, 1, 2, 3] (lv' := [(3, .int (nI (0))), (0, .ref (o)), (1, .int (nI (g))), (2, .ref (ad ke))]) rfl ?_; exact loop2 (tn + 1) 0 u.1 u.2 (by omega) (by omega) (by rw [s2, mapT_0]; exact ⟨hu.1, (hu.2.2.2 16 g (by simp [pXg])).trans hco, (hu.2.2.1 15 g (by simp [pC])).trans (up2_s _ _ _ _), hu.2.1, (fr.up (Or.inr (Or.inl ⟨rfl, rfl⟩))).tr (hu.2.2.1.mono (fun k j z => Or.inr (Or.inr z))), hu.2.2.2.mono (fun k j z => Or.inr z)⟩) (fun z q hq => by omega) (fun q hq => (hu.2.2.1 9 q (by simp [pC])).trans rfl)
