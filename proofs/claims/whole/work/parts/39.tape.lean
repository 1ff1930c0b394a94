/-! THE TAPE -/
def wbk (v : Int32) (k : Nat) : Nat := v.toBitVec.toNat / 2 ^ k % 256
def wb (v : Int32) : List Nat := [wbk v 24, wbk v 16, wbk v 8, wbk v 0]
def tpR (I : Nat → Nat → Int32) (tp : List Nat) : Prop := ∀ i b, tp[i]? = some b → I 0 i = (nI b).toInt8.toInt32
theorem wbk_lt (v : Int32) (k : Nat) : wbk v k < 256 := Nat.mod_lt _ (by omega)
theorem wb_lt (v : Int32) : ∀ b ∈ wb v, b < 256 := by
  intro b hb
  simp only [wb, List.mem_cons, List.not_mem_nil, or_false] at hb
  rcases hb with z | z | z | z <;> rw [z] <;> exact wbk_lt _ _
theorem byte_all : ∀ b : Fin 256, (nI b.1).toInt8.toInt32 &&& 255 = nI b.1 := by decide +kernel
theorem byte_at {b : Nat} (h : b < 256) : (nI b).toInt8.toInt32 &&& nI 255 = nI b := byte_all ⟨b, h⟩
theorem nar8 (x : Int32) : vp_nar .byte (x.toInt8.toInt32) = x.toInt8.toInt32 := by
  show x.toInt8.toInt32.toInt8.toInt32 = _
  simp
theorem sh8 {v w : Int32} {k : Nat} (hk : k ≤ 24) (h : w.toBitVec = v.toBitVec.sshiftRight k) : w.toInt8.toInt32 = (nI (wbk v k)).toInt8.toInt32 := by
  congr 1
  apply Int8.toBitVec_inj.mp
  rw [Int32.toBitVec_toInt8, Int32.toBitVec_toInt8, h]
  rw [BitVec.signExtend_eq_setWidth_of_le _ (by omega), BitVec.signExtend_eq_setWidth_of_le _ (by omega)]
  apply BitVec.eq_of_getLsbD_eq
  intro i hi
  have e : (nI (wbk v k)).toBitVec = BitVec.ofNat 32 (wbk v k) := rfl
  rw [e]
  simp only [BitVec.getLsbD_setWidth, BitVec.getLsbD_sshiftRight, BitVec.getLsbD_ofNat, wbk]
  rw [show (256 : Nat) = 2 ^ 8 by rfl, Nat.testBit_mod_two_pow, Nat.testBit_div_two_pow]
  have h1 : ¬ 32 ≤ i := by omega
  have h2 : k + i < 32 := by omega
  simp [hi, h1, h2, show i < 32 by omega, BitVec.testBit_toNat, Nat.add_comm]
theorem tp_push {I : Nat → Nat → Int32} {tp : List Nat} {b n : Nat} {x : Int32} (h : tpR I tp) (hn : n = tp.length) (hx : x = (nI b).toInt8.toInt32) : tpR (up2 I 0 n x) (tp ++ [b]) := by
  intro i c hc
  by_cases z : i < tp.length
  · rw [List.getElem?_append_left z] at hc
    rw [up2_j _ _ (by omega)]; exact h i c hc
  · by_cases y : i = tp.length
    · subst y
      rw [List.getElem?_append_right (Nat.le_refl _)] at hc
      simp at hc
      rw [hn, up2_s, hx, hc]
    · rw [List.getElem?_eq_none (by simp; omega)] at hc
      cases hc
/-! THE EDICT -/
def letK (c : Int32) : Nat := if c.toInt = 98 then 0 else if c.toInt = 110 then 1 else if c.toInt = 115 then 2 else if c.toInt = 109 then 3 else if c.toInt = 108 then 4 else if c.toInt = 97 then 5 else if c.toInt = 112 then 6 else if c.toInt = 111 then 7 else 8
def letA (c : Int32) : Int32 := if letK c < 8 then nI (letK c) else -1
theorem letK_le (c : Int32) : letK c ≤ 8 := by
  unfold letK
  repeat (first | omega | split)
abbrev can (w v : Nat) : Prop := (w = 4 → 100 ≤ v) ∧ (w = 5 → 1 ≤ v ∧ v ≤ 999) ∧ (w = 6 → v ≤ 100)
def fst8 (j : Nat) : Nat := if j = 0 then 100 else if j = 1 then 100 else if j = 2 then 400 else if j = 3 then 200 else if j = 4 then 110 else if j = 5 then 24 else if j = 6 then 5 else if j = 7 then 3 else 0
/-- a byte of the TEXT; 0 beyond it -/
def byt (tp : List Nat) (n k : Nat) : Nat := if k < n then tp.getD k 0 else 0
abbrev dig (b : Nat) : Prop := 48 ≤ b ∧ b ≤ 57
/-- how many digits stand from k on -/
def dl (b : Nat → Nat) : Nat → Nat → Nat
  | 0, _ => 0
  | f + 1, k => if dig (b k) then dl b f (k + 1) + 1 else 0
def numV (b : Nat → Nat) (k : Nat) : Nat → Nat
  | 0 => 0
  | m + 1 => 10 * numV b k m + b (k + m) - 48
def rds (b : Nat → Nat) (n : Nat) : Nat → Nat → (Nat → Nat) → Nat × (Nat → Nat)
  | 0, k, d => (100 + k, d)
  | f + 1, k, d => if letK (nI (b k)) = 8 then (100 + k, d) else if dl b 61 (k + 1) = 0 then (200 + (k + 1), d) else if 4 < dl b 61 (k + 1) then (300 + (k + 5), d) else if ¬ can (letK (nI (b k))) (numV b (k + 1) (dl b 61 (k + 1))) then (400 + (k + 1), d) else if k + 1 + dl b 61 (k + 1) = n then (0, upf d (letK (nI (b k))) (numV b (k + 1) (dl b 61 (k + 1)))) else if b (k + 1 + dl b 61 (k + 1)) ≠ 59 then (500 + (k + 1 + dl b 61 (k + 1)), d) else rds b n f (k + 1 + dl b 61 (k + 1) + 1) (upf d (letK (nI (b k))) (numV b (k + 1) (dl b 61 (k + 1))))
theorem dl_at {b : Nat → Nat} : ∀ (f k m : Nat), dl b f k = m → ∀ j, j < m → dig (b (k + j))
  | 0, k, m, h, j, hj => by simp only [dl] at h; omega
  | f + 1, k, m, h, j, hj => by
    rw [dl] at h
    split at h
    · rename_i q
      cases j with
      | zero => exact q
      | succ j => have := dl_at (b := b) f (k + 1) (m - 1) (by omega) j (by omega); rw [show k + (j + 1) = k + 1 + j by omega]; exact this
    · omega
/-- m digits, then none: that is their count -/
theorem dl_is {b : Nat → Nat} : ∀ (f k m : Nat), m < f → (∀ j, j < m → dig (b (k + j))) → ¬ dig (b (k + m)) → dl b f k = m
  | 0, k, m, h, _, _ => by omega
  | f + 1, k, 0, h, h1, h2 => by rw [dl, if_neg (show ¬ dig (b k) from h2)]
  | f + 1, k, m + 1, h, h1, h2 => by rw [dl, if_pos (show dig (b k) from h1 0 (by omega)), dl_is f (k + 1) m (by omega) (fun j hj => by rw [show k + 1 + j = k + (j + 1) by omega]; exact h1 (j + 1) (by omega)) (by rw [show k + 1 + m = k + (m + 1) by omega]; exact h2)]
theorem dl_ge {b : Nat → Nat} : ∀ (f k m : Nat), m ≤ f → (∀ j, j < m → dig (b (k + j))) → m ≤ dl b f k
  | 0, k, m, h, _ => by omega
  | f + 1, k, 0, h, h1 => Nat.zero_le _
  | f + 1, k, m + 1, h, h1 => by rw [dl, if_pos (show dig (b k) from h1 0 (by omega))]; have := dl_ge f (k + 1) m (by omega) (fun j hj => by rw [show k + 1 + j = k + (j + 1) by omega]; exact h1 (j + 1) (by omega)); omega
theorem numV_lt {b : Nat → Nat} {k : Nat} : ∀ m, (∀ j, j < m → dig (b (k + j))) → numV b k m < 10 ^ m
  | 0, _ => by simp [numV]
  | m + 1, h => by
    have i := numV_lt m (fun j hj => h j (by omega))
    have d := h m (by omega)
    simp only [dig] at d
    rw [numV, Nat.pow_succ]
    omega
theorem numV_4 {b : Nat → Nat} {k m : Nat} (hm : m ≤ 4) (h : ∀ j, j < m → dig (b (k + j))) : numV b k m ≤ 9999 := by
  have i := numV_lt m h
  have : (10 : Nat) ^ m ≤ 10 ^ 4 := Nat.pow_le_pow_right (by omega) hm
  omega
theorem byt_n {tp : List Nat} {n k : Nat} (h : ¬ dig 0 := by decide) (hk : dig (byt tp n k)) : k < n := by
  rcases Nat.lt_or_ge k n with z | z
  · exact z
  · exact absurd (by rw [byt, if_neg (by omega)] at hk; exact hk) h
theorem dl_n {tp : List Nat} {n f k : Nat} (hk : k ≤ n) : k + dl (byt tp n) f k ≤ n := by
  rcases Nat.eq_or_lt_of_le (Nat.zero_le (dl (byt tp n) f k)) with z | z
  · omega
  · have := byt_n (tp := tp) (n := n) (k := k + (dl (byt tp n) f k - 1)) (hk := dl_at f k _ rfl _ (by omega)); omega
theorem can5 {k v : Nat} (hv : v ≤ 9999) (h : k = 5) : (if lN 1 ≤ lN v ∧ lN v ≤ lN 999 then (1 : Int32) else 0) = if can k v then 1 else 0 := by
  have e : (lN 1 ≤ lN v ∧ lN v ≤ lN 999) ↔ can k v := by
    rw [Int64.le_iff_toInt_le, Int64.le_iff_toInt_le, lNI (by omega), lNI (by omega), lNI (by omega)]
    simp only [can]; omega
  by_cases z : can k v
  · rw [if_pos z, if_pos (e.mpr z)]
  · rw [if_neg z, if_neg (fun y => z (e.mp y))]
theorem mrep_tape {sc sc' : Int32 × Int32 × Int32} {I I' : Nat → Nat → Int32} {J : Nat → Nat → Int64} {tp tp' : List Nat} {nx : Nat → Nat} {tn rn : Nat} {E R Hv : Nat → Nat} {mo co : Nat} {C : List Cr} {T : Nat → ST} {rd : Nat → Rd} (hm : mrep sc I J tp nx tn rn E R Hv mo co C T rd) (h0 : sc'.1 = nI tp'.length) (h1 : tpR I' tp') (f : fr (fun k j => k = 0) I I') (hl : ∀ t, t < 8 → (T t).2.2.length ≤ 40) (hC : C.length ≤ 60) (hs : sc'.2 = sc.2 := by rfl) : mrep sc' I' J tp' nx tn rn E R Hv mo co C T rd := by
  obtain ⟨m0, m1, m2, m3, m4, m5, m6, m7, m8, m9, m10, m11, m12, m13⟩ := hm
  have k : ∀ a b, a ≠ 0 → I' a b = I a b := fun a b h => f a b h
  refine ⟨h0, h1, fun j h => (k 3 j (by omega)).trans (m2 j h), by rw [hs]; exact m3, by rw [hs]; exact m4, fun j h => (k 7 j (by omega)).trans (m5 j h), fun j h => (k 8 j (by omega)).trans (m6 j h), fun t ht => by rw [k 9 t (by omega)]; exact m7 t ht, (k 15 0 (by omega)).trans m8, m9, crR_fr f m10 hC (by omega) (by intros; omega), MRg_keep (P' := fun _ _ => False) m11 hl f fr.rf (fun a b z => by omega) (fun a b z => z.elim), fun r hr => ?_, fun t h1 h2 => ?_⟩
  · obtain ⟨b1, b2, b3, b4, b5⟩ := m12 r hr
    exact ⟨(k 10 r (by omega)).trans b1, (k 11 r (by omega)).trans b2, (k 12 r (by omega)).trans b3, (k 13 r (by omega)).trans b4, (k 14 r (by omega)).trans b5⟩
  · exact slotR_fr (P' := fun _ _ => False) f fr.rf (m13 t h1 h2) (by simp [st0]) (by omega) (by intros; omega) (fun _ _ _ z => z)
