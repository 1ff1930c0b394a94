set_option maxHeartbeats 4000000 in
set_option maxRecDepth 20000 in
theorem c_X8_copies (l : Launch) (G : GG) (o : Nat) (ad : Nat → Nat) (sc : Int32 × Int32 × Int32) (I : Nat → Nat → Int32) (J : Nat → Nat → Int64) (B : Nat) (tp : List Nat) (nx : Nat → Nat) (tn rn : Nat) (E R Hv : Nat → Nat) (mo co : Nat) (C : List Cr) (T : Nat → ST) (rd : Nat → Rd) (hm : mrep sc I J tp nx tn rn E R Hv mo co C T rd) (hv : sinv B tp nx tn rn E R Hv mo co C T rd) (hB : B ≤ 2 ^ 47) : Ct l G yX8_copies cX8_copies 3 none rm_X8_copies [.ref (o)] (mw G o ad sc I J) (fun u : (Nat → Nat → Int32) × (Nat → Nat → Int64) => mw G o ad sc u.1 u.2) (fun u : (Nat → Nat → Int32) × (Nat → Nat → Int64) => none) (fun u : (Nat → Nat → Int32) × (Nat → Nat → Int64) => mst I J 1 u.1 u.2 (mo, co, C, (fun _ => 0), cpT tn J T)) := by
  refine Ct.of (by decide) (Nat.le_of_ble_eq_true rfl) (fun X A hX => ?_)
  subst hX
  refine V.to (lv' := [(0, .ref (o))]) (st := []) (pc' := 0) rfl rfl rfl ?_
  obtain ⟨m0, m1, m2, m3, m4, m5, m6, m7, m8, m9, m10, m11, m12, m13⟩ := id hm
  obtain ⟨⟨v0, v1⟩, ⟨v2, v3⟩, ⟨v4, v5⟩, ⟨v6, v7, v8, v9⟩, ⟨v10, v11⟩, ⟨v12, v13⟩, ⟨v14, v15⟩, v16, v17⟩ := id hv
  have loopC : ∀ (d : Nat) (t : Nat) (L : List Lt) (I1 : Nat → Nat → Int32) (J2 : Nat → Nat → Int64) (i : Nat) (I2 : Nat → Nat → Int32), L.length - i < d → t < 8 → rowR I1 t L → L.length ≤ 40 → I2 22 (8 + t) = nI L.length → i ≤ L.length → (∀ j l, j < i → L[j]? = some l → ent I2 (40 * (8 + t) + j) l) → fr (pS (8 + t)) I1 I2 → (∀ I3 : Nat → Nat → Int32, rowR I3 (8 + t) L → fr (pS (8 + t)) I1 I3 → V G X yX8_copies cX8_copies 3 none rm_X8_copies A (MZ G X rm_X8_copies A (fun u : (Nat → Nat → Int32) × (Nat → Nat → Int64) => mw G o ad sc u.1 u.2) (fun u : (Nat → Nat → Int32) × (Nat → Nat → Int64) => none) (fun u : (Nat → Nat → Int32) × (Nat → Nat → Int64) => mst I J 1 u.1 u.2 (mo, co, C, (fun _ => 0), cpT tn J T))) 0 0 (mw G o ad sc I3 J2) [(1, .int (nI (t))), (0, .ref (o))] 257 []) → V G X yX8_copies cX8_copies 3 none rm_X8_copies A (MZ G X rm_X8_copies A (fun u : (Nat → Nat → Int32) × (Nat → Nat → Int64) => mw G o ad sc u.1 u.2) (fun u : (Nat → Nat → Int32) × (Nat → Nat → Int64) => none) (fun u : (Nat → Nat → Int32) × (Nat → Nat → Int64) => mst I J 1 u.1 u.2 (mo, co, C, (fun _ => 0), cpT tn J T))) 0 0 (mw G o ad sc I2 J2) [(2, .int (nI (i))), (1, .int (nI (t))), (0, .ref (o))] 166 [] := by
    intro d
    induction d with
    | zero => intro t L I1 J2 i I2 hd; exact absurd hd (Nat.not_lt_zero _)
    | succ d ih =>
      intro t L I1 J2 i I2 hd ht hsrcR hL40 h22 hi hen hfr K
      have hsrc : ∀ j l, L[j]? = some l → ent I2 (40 * t + j) l := fun j l hl => ent_fr hfr (hsrcR.2 j l hl) (fun k h1 h2 z => by have := lt_get hl; simp only [pS] at z; omega)
      have hl2 : I2 22 t = nI L.length := (hfr 22 t (by simp only [pS]; omega)).trans hsrcR.1
      refine V.iload_n dX8_copies_166 rfl rfl ?_
      refine V.aload_n dX8_copies_167 rfl rfl ?_
      refine Mg22 rfl dX8_copies_168 ?_
      refine V.iload_n dX8_copies_171 rfl rfl ?_
      refine Ml22 (t) rfl (by omega) dX8_copies_172 ?_
      refine V.ei (y := nI (L.length)) hl2 ?_
      refine V.icmp_ge (tgt := 257) dX8_copies_173 (by decide) (fun c_1 => ?_) (fun c_1 => ?_)
      · have hc := (nI_leI (by omega) (by omega)).mp c_1
        have he : i = L.length := by omega
        refine V.pick [1, 2] (lv' := [(1, .int (nI (t))), (0, .ref (o))]) rfl ?_; exact K I2 ⟨h22, fun j l hl => hen j l (by have := lt_get hl; omega) hl⟩ hfr
      · have hc : i < L.length := Nat.lt_of_not_le (fun h => c_1 (nI_le h (by omega)))
        obtain ⟨l, hl⟩ := get_lt hc
        refine V.aload_n dX8_copies_176 rfl rfl ?_
        refine Mg30 rfl dX8_copies_177 ?_
        refine V.bipush (v := nI (40)) dX8_copies_180 rfl ?_
        refine V.bipush (v := nI (8)) dX8_copies_182 rfl ?_
        refine V.iload_n dX8_copies_184 rfl rfl ?_
        refine V.iadd dX8_copies_185 ?_
        refine V.ei (nI_add _ _) ?_
        refine V.imul dX8_copies_186 ?_
        refine V.ei (pk_mul _ _) ?_
        refine V.iload_n dX8_copies_187 rfl rfl ?_
        refine V.iadd dX8_copies_188 ?_
        refine V.ei (nI_add _ _) ?_
        refine V.aload_n dX8_copies_189 rfl rfl ?_
        refine Mg30 rfl dX8_copies_190 ?_
        refine V.bipush (v := nI (40)) dX8_copies_193 rfl ?_
        refine V.iload_n dX8_copies_195 rfl rfl ?_
        refine V.imul dX8_copies_196 ?_
        refine V.ei (pk_mul _ _) ?_
        refine V.iload_n dX8_copies_197 rfl rfl ?_
        refine V.iadd dX8_copies_198 ?_
        refine V.ei (nI_add _ _) ?_
        refine Ml30 (((40) * (t)) + (i)) rfl (by omega) dX8_copies_199 ?_
        refine V.ei (y := nI (l.1)) (hsrc i l hl).1 ?_
        refine Ms30 (((40) * ((8) + (t))) + (i)) rfl (by omega) dX8_copies_200 ?_
        refine V.aload_n dX8_copies_201 rfl rfl ?_
        refine Mg31 rfl dX8_copies_202 ?_
        refine V.bipush (v := nI (40)) dX8_copies_205 rfl ?_
        refine V.bipush (v := nI (8)) dX8_copies_207 rfl ?_
        refine V.iload_n dX8_copies_209 rfl rfl ?_
        refine V.iadd dX8_copies_210 ?_
        refine V.ei (nI_add _ _) ?_
        refine V.imul dX8_copies_211 ?_
        refine V.ei (pk_mul _ _) ?_
        refine V.iload_n dX8_copies_212 rfl rfl ?_
        refine V.iadd dX8_copies_213 ?_
        refine V.ei (nI_add _ _) ?_
        refine V.aload_n dX8_copies_214 rfl rfl ?_
        refine Mg31 rfl dX8_copies_215 ?_
        refine V.bipush (v := nI (40)) dX8_copies_218 rfl ?_
        refine V.iload_n dX8_copies_220 rfl rfl ?_
        refine V.imul dX8_copies_221 ?_
        refine V.ei (pk_mul _ _) ?_
        refine V.iload_n dX8_copies_222 rfl rfl ?_
        refine V.iadd dX8_copies_223 ?_
        refine V.ei (nI_add _ _) ?_
        refine Ml31 (((40) * (t)) + (i)) rfl (by omega) dX8_copies_224 ?_
        refine V.ei (y := l.2.1) (hsrc i l hl).2.1 ?_
        refine Ms31 (((40) * ((8) + (t))) + (i)) rfl (by omega) dX8_copies_225 ?_
        refine V.aload_n dX8_copies_226 rfl rfl ?_
        refine Mg32 rfl dX8_copies_227 ?_
        refine V.bipush (v := nI (40)) dX8_copies_230 rfl ?_
        refine V.bipush (v := nI (8)) dX8_copies_232 rfl ?_
        refine V.iload_n dX8_copies_234 rfl rfl ?_
        refine V.iadd dX8_copies_235 ?_
        refine V.ei (nI_add _ _) ?_
        refine V.imul dX8_copies_236 ?_
        refine V.ei (pk_mul _ _) ?_
        refine V.iload_n dX8_copies_237 rfl rfl ?_
        refine V.iadd dX8_copies_238 ?_
        refine V.ei (nI_add _ _) ?_
        refine V.aload_n dX8_copies_239 rfl rfl ?_
        refine Mg32 rfl dX8_copies_240 ?_
        refine V.bipush (v := nI (40)) dX8_copies_243 rfl ?_
        refine V.iload_n dX8_copies_245 rfl rfl ?_
        refine V.imul dX8_copies_246 ?_
        refine V.ei (pk_mul _ _) ?_
        refine V.iload_n dX8_copies_247 rfl rfl ?_
        refine V.iadd dX8_copies_248 ?_
        refine V.ei (nI_add _ _) ?_
        refine Ml32 (((40) * (t)) + (i)) rfl (by omega) dX8_copies_249 ?_
        refine V.ei (y := nI (l.2.2.1)) (hsrc i l hl).2.2.1 ?_
        refine Ms32 (((40) * ((8) + (t))) + (i)) rfl (by omega) dX8_copies_250 ?_
        refine V.iinc (k := 0) (v := nI (i + 1)) (lv' := [(2, .int (nI (i + 1))), (1, .int (nI (t))), (0, .ref (o))]) dX8_copies_251 rfl (iinc1 _) (by decide) rfl ?_
        refine V.goto (tgt := 166) dX8_copies_254 (by decide) ?_
        refine V.wd (ws' := mw G o ad sc (z3 I2 (40 * (8 + t) + i) l) J2) rfl ?_
        refine V.pick [0, 1, 2] (lv' := [(2, .int (nI (i + 1))), (1, .int (nI (t))), (0, .ref (o))]) rfl ?_; exact ih t L I1 J2 (i + 1) _ (by omega) ht hsrcR hL40 h22 (by omega) (fun j l2 hj hl2 => by
          by_cases z : j = i
          · subst z; rw [hl] at hl2; cases hl2; exact z3_same _ _ (by omega)
          · exact z3_other (by omega) (hen j l2 (by omega) hl2)) (hfr.tr (z3_fr ⟨by omega, by omega⟩)) K
  have hcl : ∀ q, q < tn → (cpT tn J T q).2.2 = (T q).2.2 := fun q hq => by simp [cpT, hq]
  have loopB : ∀ (d : Nat) (t : Nat) (I1 : Nat → Nat → Int32) (J1 : Nat → Nat → Int64), tn - t < d → t ≤ tn → crR I1 1 C → I1 15 1 = nI mo → J1 16 1 = lN co → fr (pI1 t) I I1 → fr (pJ1 t) J J1 → (∀ q, q < t → slotR I1 J1 (8 + q) (cpT tn J T q)) → V G X yX8_copies cX8_copies 3 none rm_X8_copies A (MZ G X rm_X8_copies A (fun u : (Nat → Nat → Int32) × (Nat → Nat → Int64) => mw G o ad sc u.1 u.2) (fun u : (Nat → Nat → Int32) × (Nat → Nat → Int64) => none) (fun u : (Nat → Nat → Int32) × (Nat → Nat → Int64) => mst I J 1 u.1 u.2 (mo, co, C, (fun _ => 0), cpT tn J T))) 0 0 (mw G o ad sc I1 J1) [(1, .int (nI (t))), (0, .ref (o))] 101 [] := by
    intro d
    induction d with
    | zero => intro t I1 J1 hd; exact absurd hd (Nat.not_lt_zero _)
    | succ d ih =>
      intro t I1 J1 hd ht hcr h15 h16 hf hj hdone
      refine V.iload_n dX8_copies_101 rfl rfl ?_
      refine V.aload_n dX8_copies_102 rfl rfl ?_
      refine Mg5 rfl dX8_copies_103 ?_
      refine V.ei (y := nI (tn)) m3 ?_
      refine V.icmp_ge (tgt := 263) dX8_copies_106 (by decide) (fun c_1 => ?_) (fun c_1 => ?_)
      · have hc := (nI_leI (by omega) (by omega)).mp c_1
        have he : t = tn := by omega
        exact V.vret (I1, J1) rfl rfl ⟨fun q hq => by by_cases z : q < tn; exact hdone q (by omega); show slotR I1 J1 (8 + q) (cpT tn J T q); rw [show cpT tn J T q = st0 by simp [cpT, z]]; exact slotR_fr hf hj (m13 q (by omega) hq) (by simp [st0]) (by simp only [pI1]; omega) (fun a b h1 h2 h3 h4 y => by simp only [pI1] at y; omega) (fun a h1 h2 y => by simp only [pJ1] at y; omega), h16, h15, hcr, hf.mono (fun k j z => by simp only [pI1, pG, pC] at z ⊢; omega), hj.mono (fun k j z => by simp only [pJ1, pGJ, pXg] at z ⊢; omega)⟩ rfl (by decide) (by decide) dX8_copies_263
      · have hc : t < tn := by
          rcases Nat.lt_or_ge t tn with z | z
          · exact z
          · exact absurd (nI_le z (by omega)) c_1
        have ht8 : t < 8 := by omega
        have hs0 : slotR I1 J1 t (T t) := slotR_fr hf hj (by have := m11 t ht8; rw [show 8 * 0 + t = t by omega] at this; exact this) (v14 t ht8).1 (by simp only [pI1]; omega) (fun a b h1 h2 h3 h4 z => by simp only [pI1] at z; omega) (fun a h1 h2 z => by simp only [pJ1] at z; omega)
        have hsrow := hs0.2.2.2.2.2.2.2.2
        refine V.aload_n dX8_copies_109 rfl rfl ?_
        refine Mg21 rfl dX8_copies_110 ?_
        refine V.bipush (v := nI (8)) dX8_copies_113 rfl ?_
        refine V.iload_n dX8_copies_115 rfl rfl ?_
        refine V.iadd dX8_copies_116 ?_
        refine V.ei (nI_add _ _) ?_
        refine V.aload_n dX8_copies_117 rfl rfl ?_
        refine Mg21 rfl dX8_copies_118 ?_
        refine V.iload_n dX8_copies_121 rfl rfl ?_
        refine Ml21 (t) rfl (by omega) dX8_copies_122 ?_
        refine V.el (y := lN ((T t).1.1)) hs0.1 ?_
        refine Ms21 ((8) + (t)) rfl (by omega) dX8_copies_123 ?_
        refine V.aload_n dX8_copies_124 rfl rfl ?_
        refine Mg22 rfl dX8_copies_125 ?_
        refine V.bipush (v := nI (8)) dX8_copies_128 rfl ?_
        refine V.iload_n dX8_copies_130 rfl rfl ?_
        refine V.iadd dX8_copies_131 ?_
        refine V.ei (nI_add _ _) ?_
        refine V.aload_n dX8_copies_132 rfl rfl ?_
        refine Mg22 rfl dX8_copies_133 ?_
        refine V.iload_n dX8_copies_136 rfl rfl ?_
        refine Ml22 (t) rfl (by omega) dX8_copies_137 ?_
        refine V.ei (y := nI ((T t).2.2.length)) hs0.2.2.2.2.2.2.2.2.1 ?_
        refine Ms22 ((8) + (t)) rfl (by omega) dX8_copies_138 ?_
        refine V.aload_n dX8_copies_139 rfl rfl ?_
        refine Mg26 rfl dX8_copies_140 ?_
        refine V.bipush (v := nI (8)) dX8_copies_143 rfl ?_
        refine V.iload_n dX8_copies_145 rfl rfl ?_
        refine V.iadd dX8_copies_146 ?_
        refine V.ei (nI_add _ _) ?_
        refine V.aload_n dX8_copies_147 rfl rfl ?_
        refine Mg26 rfl dX8_copies_148 ?_
        refine V.iload_n dX8_copies_151 rfl rfl ?_
        refine Ml26 (t) rfl (by omega) dX8_copies_152 ?_
        refine V.el (y := lN ((T t).1.2)) hs0.2.1 ?_
        refine Ms26 ((8) + (t)) rfl (by omega) dX8_copies_153 ?_
        refine V.aload_n dX8_copies_154 rfl rfl ?_
        refine Mg24 rfl dX8_copies_155 ?_
        refine V.bipush (v := nI (8)) dX8_copies_158 rfl ?_
        refine V.iload_n dX8_copies_160 rfl rfl ?_
        refine V.iadd dX8_copies_161 ?_
        refine V.ei (nI_add _ _) ?_
        refine V.lconst (v := lN 0) dX8_copies_162 rfl ?_
        refine Ms24 ((8) + (t)) rfl (by omega) dX8_copies_163 ?_
        refine V.iconst (v := nI (0)) dX8_copies_164 rfl ?_
        refine V.istore_n (lv' := [(2, .int (nI (0))), (1, .int (nI (t))), (0, .ref (o))]) dX8_copies_165 rfl (by decide) rfl ?_
        refine V.pick [0, 1, 2] (lv' := [(2, .int (nI (0))), (1, .int (nI (t))), (0, .ref (o))]) rfl ?_; refine loopC ((T t).2.2.length + 1) t (T t).2.2 (up2 I1 22 (8 + t) (nI (T t).2.2.length)) _ 0 _ (by omega) ht8 (rowR_fr (fr.up (P := fun k j => k = 22 ∧ j = 8 + t) ⟨rfl, rfl⟩) hsrow (by omega) (by intros; omega)) (v14 t ht8).1 (up2_s _ _ _ _) (by omega) (fun j l hj => by omega) fr.rf (fun I3 e1 e2 => ?_)
        have fI : fr (pS (8 + t)) I1 I3 := (fr.up (Or.inl ⟨rfl, rfl⟩)).tr e2
        have fJ : fr (pX (8 + t)) J1 (up2 (up2 (up2 J1 21 (8 + t) (lN (T t).1.1)) 26 (8 + t) (lN (T t).1.2)) 24 (8 + t) (lN 0)) := ((fr.up ⟨by omega, by omega, rfl⟩).tr (fr.up ⟨by omega, by omega, rfl⟩)).tr (fr.up ⟨by omega, by omega, rfl⟩)
        have hJo : ∀ k, 21 ≤ k → k ≤ 29 → J1 k (8 + t) = J k (8 + t) := fun k h1 h2 => hj k _ (by simp only [pJ1]; omega)
        have hnew : slotR I3 (up2 (up2 (up2 J1 21 (8 + t) (lN (T t).1.1)) 26 (8 + t) (lN (T t).1.2)) 24 (8 + t) (lN 0)) (8 + t) (cpT tn J T t) := by
          rw [show cpT tn J T t = ((T t).1, (0, J 25 (8 + t), J 27 (8 + t), J 28 (8 + t), J 29 (8 + t), J 23 (8 + t)), (T t).2.2) by simp [cpT, hc]]
          exact ⟨by simp [up2], by simp [up2], up2_s _ _ _ _, hJo 25 (by omega) (by omega), hJo 27 (by omega) (by omega), hJo 28 (by omega) (by omega), hJo 29 (by omega) (by omega), hJo 23 (by omega) (by omega), e1⟩
        refine V.iinc (k := 0) (v := nI (t + 1)) (lv' := [(1, .int (nI (t + 1))), (0, .ref (o))]) dX8_copies_257 rfl (iinc1 _) (by decide) rfl ?_
        refine V.goto (tgt := 101) dX8_copies_260 (by decide) ?_
        refine V.pick [0, 1] (lv' := [(1, .int (nI (t + 1))), (0, .ref (o))]) rfl ?_; exact ih (t + 1) I3 _ (by omega) (by omega) (crR_fr (P := pS (8 + t)) fI hcr v12 (by simp only [pS]; omega) (fun a b h1 h2 _ _ z => by simp only [pS] at z; omega)) ((fI 15 1 (by simp only [pS]; omega)).trans h15) ((fJ 16 1 (by simp only [pX]; omega)).trans h16) (hf.mono (fun k j z => by simp only [pI1] at z ⊢; omega) |>.tr (fI.mono (fun k j z => by simp only [pS, pI1] at z ⊢; omega))) (hj.mono (fun k j z => by simp only [pJ1] at z ⊢; omega) |>.tr (fJ.mono (fun k j z => by simp only [pX, pJ1] at z ⊢; omega))) (fun q hq => by
          by_cases z : q = t
          · subst z; exact hnew
          · exact slotR_fr fI fJ (hdone q (by omega)) (by rw [hcl q (by omega)]; exact (v14 q (by omega)).1) (by simp only [pS]; omega) (fun a b h1 h2 h3 h4 z => by simp only [pS] at z; omega) (fun a h1 h2 z => by simp only [pX] at z; omega))
  have loopA : ∀ (d : Nat) (k : Nat) (I1 : Nat → Nat → Int32), C.length - k < d → k ≤ C.length → I1 17 1 = nI C.length → I1 15 1 = nI mo → fr (pI1 0) I I1 → (∀ j l, j < k → C[j]? = some l → crE I1 (60 + j) l) → V G X yX8_copies cX8_copies 3 none rm_X8_copies A (MZ G X rm_X8_copies A (fun u : (Nat → Nat → Int32) × (Nat → Nat → Int64) => mw G o ad sc u.1 u.2) (fun u : (Nat → Nat → Int32) × (Nat → Nat → Int64) => none) (fun u : (Nat → Nat → Int32) × (Nat → Nat → Int64) => mst I J 1 u.1 u.2 (mo, co, C, (fun _ => 0), cpT tn J T))) 0 0 (mw G o ad sc I1 (up2 J 16 1 (lN co))) [(1, .int (nI (k))), (0, .ref (o))] 38 [] := by
    intro d
    induction d with
    | zero => intro k I1 hd; exact absurd hd (Nat.not_lt_zero _)
    | succ d ih =>
      intro k I1 hd hk h17 h15 hf hen
      have h170 : I1 17 0 = nI C.length := (hf 17 0 (by simp only [pI1]; omega)).trans m10.1
      have hse : ∀ l, C[k]? = some l → crE I1 k l := fun l hl => crE_fr hf (by have := m10.2 k l hl; rw [show 60 * 0 + k = k by omega] at this; exact this) (fun a h1 h2 z => by have := lt_get hl; simp only [pI1] at z; omega)
      refine V.iload_n dX8_copies_38 rfl rfl ?_
      refine V.aload_n dX8_copies_39 rfl rfl ?_
      refine Mg17 rfl dX8_copies_40 ?_
      refine V.iconst (v := nI (0)) dX8_copies_43 rfl ?_
      refine Ml17 (0) rfl (by omega) dX8_copies_44 ?_
      refine V.ei (y := nI (C.length)) h170 ?_
      refine V.icmp_ge (tgt := 99) dX8_copies_45 (by decide) (fun c_1 => ?_) (fun c_1 => ?_)
      · have hc := (nI_leI (by omega) (by omega)).mp c_1
        have he : k = C.length := by omega
        refine V.iconst (v := nI (0)) dX8_copies_99 rfl ?_
        refine V.istore_n (lv' := [(1, .int (nI (0))), (0, .ref (o))]) dX8_copies_100 rfl (by decide) rfl ?_
        refine V.pick [0, 1] (lv' := [(1, .int (nI (0))), (0, .ref (o))]) rfl ?_; exact loopB (tn + 1) 0 I1 _ (by omega) (by omega) ⟨h17, fun j l hl => hen j l (by have := lt_get hl; omega) hl⟩ h15 (up2_s _ _ _ _) hf (fr.up (Or.inl ⟨rfl, rfl⟩)) (fun q hq => by omega)
      · have hc : k < C.length := Nat.lt_of_not_le (fun h => c_1 (nI_le h (by omega)))
        obtain ⟨l, hl⟩ := get_lt hc
        refine V.aload_n dX8_copies_48 rfl rfl ?_
        refine Mg18 rfl dX8_copies_49 ?_
        refine V.bipush (v := nI (60)) dX8_copies_52 rfl ?_
        refine V.iload_n dX8_copies_54 rfl rfl ?_
        refine V.iadd dX8_copies_55 ?_
        refine V.ei (nI_add _ _) ?_
        refine V.aload_n dX8_copies_56 rfl rfl ?_
        refine Mg18 rfl dX8_copies_57 ?_
        refine V.iload_n dX8_copies_60 rfl rfl ?_
        refine Ml18 (k) rfl (by omega) dX8_copies_61 ?_
        refine V.ei (y := nI (l.1)) (hse l hl).1 ?_
        refine Ms18 ((60) + (k)) rfl (by omega) dX8_copies_62 ?_
        refine V.aload_n dX8_copies_63 rfl rfl ?_
        refine Mg19 rfl dX8_copies_64 ?_
        refine V.bipush (v := nI (60)) dX8_copies_67 rfl ?_
        refine V.iload_n dX8_copies_69 rfl rfl ?_
        refine V.iadd dX8_copies_70 ?_
        refine V.ei (nI_add _ _) ?_
        refine V.aload_n dX8_copies_71 rfl rfl ?_
        refine Mg19 rfl dX8_copies_72 ?_
        refine V.iload_n dX8_copies_75 rfl rfl ?_
        refine Ml19 (k) rfl (by omega) dX8_copies_76 ?_
        refine V.ei (y := nI (l.2.1)) (hse l hl).2.1 ?_
        refine Ms19 ((60) + (k)) rfl (by omega) dX8_copies_77 ?_
        refine V.aload_n dX8_copies_78 rfl rfl ?_
        refine Mg20 rfl dX8_copies_79 ?_
        refine V.bipush (v := nI (60)) dX8_copies_82 rfl ?_
        refine V.iload_n dX8_copies_84 rfl rfl ?_
        refine V.iadd dX8_copies_85 ?_
        refine V.ei (nI_add _ _) ?_
        refine V.aload_n dX8_copies_86 rfl rfl ?_
        refine Mg20 rfl dX8_copies_87 ?_
        refine V.iload_n dX8_copies_90 rfl rfl ?_
        refine Ml20 (k) rfl (by omega) dX8_copies_91 ?_
        refine V.ei (y := nI (l.2.2)) (hse l hl).2.2 ?_
        refine Ms20 ((60) + (k)) rfl (by omega) dX8_copies_92 ?_
        refine V.iinc (k := 0) (v := nI (k + 1)) (lv' := [(1, .int (nI (k + 1))), (0, .ref (o))]) dX8_copies_93 rfl (iinc1 _) (by decide) rfl ?_
        refine V.goto (tgt := 38) dX8_copies_96 (by decide) ?_
        refine V.wd (ws' := mw G o ad sc (w3 I1 (60 + k) l) (up2 J 16 1 (lN co))) rfl ?_
        refine V.pick [0, 1] (lv' := [(1, .int (nI (k + 1))), (0, .ref (o))]) rfl ?_; exact ih (k + 1) _ (by omega) (by omega) h17 h15 (hf.tr (w3_fr.mono (fun a b z => by simp only [pI1]; omega))) (fun j l2 hj hl2 => by
          by_cases z : j = k
          · subst z; rw [hl] at hl2; cases hl2; exact w3_same _ _ _
          · exact w3_other (by omega) (hen j l2 (by omega) hl2))
  refine V.aload_n dX8_copies_0 rfl rfl ?_
  refine Mg15 rfl dX8_copies_1 ?_
  refine V.iconst (v := nI (1)) dX8_copies_4 rfl ?_
  refine V.aload_n dX8_copies_5 rfl rfl ?_
  refine Mg15 rfl dX8_copies_6 ?_
  refine V.iconst (v := nI (0)) dX8_copies_9 rfl ?_
  refine Ml15 (0) rfl (by omega) dX8_copies_10 ?_
  refine V.ei (y := nI (mo)) m8 ?_
  refine Ms15 (1) rfl (by omega) dX8_copies_11 ?_
  refine V.aload_n dX8_copies_12 rfl rfl ?_
  refine Mg16 rfl dX8_copies_13 ?_
  refine V.iconst (v := nI (1)) dX8_copies_16 rfl ?_
  refine V.aload_n dX8_copies_17 rfl rfl ?_
  refine Mg16 rfl dX8_copies_18 ?_
  refine V.iconst (v := nI (0)) dX8_copies_21 rfl ?_
  refine Ml16 (0) rfl (by omega) dX8_copies_22 ?_
  refine V.el (y := lN (co)) m9 ?_
  refine Ms16 (1) rfl (by omega) dX8_copies_23 ?_
  refine V.aload_n dX8_copies_24 rfl rfl ?_
  refine Mg17 rfl dX8_copies_25 ?_
  refine V.iconst (v := nI (1)) dX8_copies_28 rfl ?_
  refine V.aload_n dX8_copies_29 rfl rfl ?_
  refine Mg17 rfl dX8_copies_30 ?_
  refine V.iconst (v := nI (0)) dX8_copies_33 rfl ?_
  refine Ml17 (0) rfl (by omega) dX8_copies_34 ?_
  refine V.ei (y := nI (C.length)) m10.1 ?_
  refine Ms17 (1) rfl (by omega) dX8_copies_35 ?_
  refine V.iconst (v := nI (0)) dX8_copies_36 rfl ?_
  refine V.istore_n (lv' := [(1, .int (nI (0))), (0, .ref (o))]) dX8_copies_37 rfl (by decide) rfl ?_
  refine V.pick [0, 1] (lv' := [(1, .int (nI (0))), (0, .ref (o))]) rfl ?_; exact loopA (C.length + 1) 0 _ (by omega) (by omega) (up2_s _ _ _ _) (by rw [up2_k _ _ (by decide), up2_s]) ((fr.up (Or.inl ⟨rfl, rfl⟩)).tr (fr.up (Or.inr (Or.inl ⟨rfl, rfl⟩)))) (fun j l hj => by omega)
set_option maxHeartbeats 4000000 in
set_option maxRecDepth 20000 in
theorem c_X8_goesOn (l : Launch) (G : GG) (o : Nat) (ad : Nat → Nat) (sc : Int32 × Int32 × Int32) (I : Nat → Nat → Int32) (J : Nat → Nat → Int64) (B : Nat) (tp : List Nat) (nx : Nat → Nat) (tn rn : Nat) (E R Hv : Nat → Nat) (mo co : Nat) (C : List Cr) (T : Nat → ST) (rd : Nat → Rd) (hm : mrep sc I J tp nx tn rn E R Hv mo co C T rd) (hv : sinv B tp nx tn rn E R Hv mo co C T rd) (hB : B ≤ 2 ^ 47) (I0 : Nat → Nat → Int32) (J0 : Nat → Nat → Int64) (B2 K2 n : Nat) (x : MS) (hn : n ≤ 24) (hx1 : x.1 ≤ 2000) (hx : mst I0 J0 1 I J x) (hms : msI tn R B2 K2 x) (hB2 : B2 ≤ 2 ^ 47) (hK2 : K2 ≤ 2 ^ 49) (hx0 : ∀ t, x.2.2.2.1 t = 0) : Ct l G yX8_goesOn cX8_goesOn 3 (some .long) rm_X8_goesOn [.ref (o), .int (nI (n))] (mw G o ad sc I J) (fun u : (Nat → Nat → Int32) × (Nat → Nat → Int64) => mw G o ad sc u.1 u.2) (fun u : (Nat → Nat → Int32) × (Nat → Nat → Int64) => some (.long (hsum tn (mits tn E R nx n x).2.2.2.2))) (fun u : (Nat → Nat → Int32) × (Nat → Nat → Int64) => mst I0 J0 1 u.1 u.2 (mits tn E R nx n x)) := by
  refine Ct.of (by decide) (Nat.le_of_ble_eq_true rfl) (fun X A hX => ?_)
  subst hX
  refine V.to (lv' := [(0, .ref (o)), (1, .int (nI (n)))]) (st := []) (pc' := 0) rfl rfl rfl ?_
  obtain ⟨m0, m1, m2, m3, m4, m5, m6, m7, m8, m9, m10, m11, m12, m13⟩ := id hm
  obtain ⟨⟨v0, v1⟩, ⟨v2, v3⟩, ⟨v4, v5⟩, ⟨v6, v7, v8, v9⟩, ⟨v10, v11⟩, ⟨v12, v13⟩, ⟨v14, v15⟩, v16, v17⟩ := id hv
  have q3 := v2 3 (by omega)
  have msn : ∀ k, msI tn R (B2 + 800000 * k) (K2 + 80000000 * k) (mits tn E R nx k x) := msI_its hms v4 q3 v3
  have hH0 : ∀ k t, (mits tn E R nx k x).2.2.2.1 t = 0 := by intro k; cases k with | zero => exact hx0 | succ k => intro t; rfl
  have loop : ∀ (d : Nat) (k : Nat) (I1 : Nat → Nat → Int32) (J1 : Nat → Nat → Int64), n - k < d → k ≤ n → mst I0 J0 1 I1 J1 (mits tn E R nx k x) → fr (pG 1) I I1 → V G X yX8_goesOn cX8_goesOn 3 (some .long) rm_X8_goesOn A (MZ G X rm_X8_goesOn A (fun u : (Nat → Nat → Int32) × (Nat → Nat → Int64) => mw G o ad sc u.1 u.2) (fun u : (Nat → Nat → Int32) × (Nat → Nat → Int64) => some (.long (hsum tn (mits tn E R nx n x).2.2.2.2))) (fun u : (Nat → Nat → Int32) × (Nat → Nat → Int64) => mst I0 J0 1 u.1 u.2 (mits tn E R nx n x))) 0 0 (mw G o ad sc I1 J1) [(2, .int (nI (k))), (0, .ref (o)), (1, .int (nI (n)))] 2 [] := by
    intro d
    induction d with
    | zero => intro k I1 J1 hd; exact absurd hd (Nat.not_lt_zero _)
    | succ d ih =>
      intro k I1 J1 hd hk hst hf
      have hmk : (mits tn E R nx k x).1 = x.1 + k := mits_mo tn E R nx x k
      have hq := msn k
      have hcar : ∀ c ∈ (mits tn E R nx k x).2.2.1, c.1 < 8 ∧ c.2.1 ≤ 5000 ∧ c.2.2 ≤ 10000 := fun c hc => by have := hq.2.2.1.2 c hc; omega
      refine V.iload_n dX8_goesOn_2 rfl rfl ?_
      refine V.iload_n dX8_goesOn_3 rfl rfl ?_
      refine V.icmp_ge (tgt := 22) dX8_goesOn_4 (by decide) (fun c_1 => ?_) (fun c_1 => ?_)
      · have hc := (nI_leI (by omega) (by omega)).mp c_1
        have he : k = n := by omega
        rw [he] at hst
        refine V.aload_n dX8_goesOn_22 rfl rfl ?_
        refine V.iconst (v := nI (1)) dX8_goesOn_23 rfl ?_
        refine V.callV0 (c_X8_hungerIn _ G o ad sc I1 J1 1 tn (mits tn E R nx n x).2.2.2.2 (by omega) m3 v4 hst.1) [] 0 9 rfl rfl rfl rfl (goodV kM_X8_232 kI_X8_hungerIn kV_X8_hungerIn kN_X8 kC_X8_hungerIn) ds_X8_hungerIn (by decide) (Nat.le_of_ble_eq_true rfl) dX8_goesOn_24 (by decide) (fun u hu => ?_)
        refine V.to (lv' := [(2, .int (nI (k))), (0, .ref (o)), (1, .int (nI (n)))]) (st := [.long (hsum tn (mits tn E R nx n x).2.2.2.2)]) (pc' := 27) rfl rfl rfl ?_
        exact V.lret (I1, J1) rfl rfl hst rfl (by decide) (by decide) dX8_goesOn_27
      · have hc : k < n := by
          rcases Nat.lt_or_ge k n with z | z
          · exact z
          · exact absurd (nI_le z (by omega)) c_1
        refine V.aload_n dX8_goesOn_7 rfl rfl ?_
        refine V.iconst (v := nI (1)) dX8_goesOn_8 rfl ?_
        refine V.aload_n dX8_goesOn_9 rfl rfl ?_
        refine Mg3 rfl dX8_goesOn_10 ?_
        refine V.callV0 (c_X8_goesBy _ G o ad sc I1 J1 1 (mits tn E R nx k x).1 (mits tn E R nx k x).2.1 (B2 + 800000 * k) tn 3 E R (mits tn E R nx k x).2.2.2.1 nx (mits tn E R nx k x).2.2.1 (mits tn E R nx k x).2.2.2.2 (by omega) v4 m3 (Or.inr rfl) hst.1 hq.1 (by omega) (fun t ht => (hf 8 t (by simp only [pG, pC]; omega)).trans (m6 t ht)) (fun t _ => v8 t) (fun t ht => (hf 7 t (by simp only [pG, pC]; omega)).trans (m5 t ht)) v6 (fun t _ => v7 t) hst.2.2.1 (by omega) hst.2.1 (by have := hq.2.1; omega) hst.2.2.2.1 hq.2.2.1.1 hcar (Or.inr ⟨rfl, hH0 k⟩) (fun t _ => hq.2.2.2 t) (fun j hj => (hf 3 j (by simp only [pG, pC]; omega)).trans (m2 j hj)) v2 v3) [] 0 9 rfl rfl rfl rfl (goodV kM_X8_215 kI_X8_goesBy kV_X8_goesBy kN_X8 kC_X8_goesBy) ds_X8_goesBy (by decide) (Nat.le_of_ble_eq_true rfl) dX8_goesOn_13 (by decide) (fun u hu => ?_)
        refine V.to (lv' := [(2, .int (nI (k))), (0, .ref (o)), (1, .int (nI (n)))]) (st := []) (pc' := 16) rfl rfl rfl ?_
        refine V.iinc (k := 0) (v := nI (k + 1)) (lv' := [(2, .int (nI (k + 1))), (0, .ref (o)), (1, .int (nI (n)))]) dX8_goesOn_16 rfl (iinc1 _) (by decide) rfl ?_
        refine V.goto (tgt := 2) dX8_goesOn_19 (by decide) ?_
        refine V.pick [0, 1, 2] (lv' := [(2, .int (nI (k + 1))), (0, .ref (o)), (1, .int (nI (n)))]) rfl ?_; exact ih (k + 1) u.1 u.2 (by omega) (by omega) (mst_step hst hu.1) (hf.tr hu.1.2.2.2.2.1)
  refine V.iconst (v := nI (0)) dX8_goesOn_0 rfl ?_
  refine V.istore_n (lv' := [(2, .int (nI (0))), (0, .ref (o)), (1, .int (nI (n)))]) dX8_goesOn_1 rfl (by decide) rfl ?_
  refine V.pick [0, 1, 2] (lv' := [(2, .int (nI (0))), (0, .ref (o)), (1, .int (nI (n)))]) rfl ?_; exact loop (n + 1) 0 I J (by omega) (by omega) hx fr.rf
