/-! new arrays -/
section VNEW
variable {G : GG} {X : CX} {my : MethodName} {cc : ByteArray} {mL : Nat} {mr : Option FieldType} {R : Room} {A : Nat → Prop} {Q : State → Prop} {kc kn : Nat} {ws : va_W} {lv : List (Nat × Value)} {pc : Nat} {rest : List Value}
theorem V.newI {n : Int32} (N : Nat) (hn : n = nI N) (hN : N ≤ 1000) (h1 : kc + 1 ≤ R.cells) (h2 : kn + N ≤ R.slots) (hdg : decode cc pc = .ok (.newarray .int, 2)) (kk : ∀ q : Nat, V G X my cc mL mr R A Q (kc + 1) (kn + N) (ws ++ [(q, .inl (gI G, N, .inl (fun _ => 0)))]) lv (pc + 2) (.ref q :: rest)) : V G X my cc mL mr R A Q kc kn ws lv pc (.int n :: rest) := by
  subst hn
  have e : "[" ++ FieldType.int.toString = "[I" := by decide +kernel
  exact V.newa (atype := .int) (ty := .int) kA_int rfl (fun U g => by rw [e]; exact g.2.1) (fun U c h => by rw [e]; exact va_nm_int h) (fun c => rfl) (nI_pos (by omega)) (nI_clamp (by omega)) (by show N * 4 ≤ _; omega) h1 h2 hdg kk
theorem V.newB {n : Int32} (N : Nat) (hn : n = nI N) (hN : N ≤ 1000) (h1 : kc + 1 ≤ R.cells) (h2 : kn + N ≤ R.slots) (hdg : decode cc pc = .ok (.newarray .byte, 2)) (kk : ∀ q : Nat, V G X my cc mL mr R A Q (kc + 1) (kn + N) (ws ++ [(q, .inl (gB G, N, .inl (fun _ => 0)))]) lv (pc + 2) (.ref q :: rest)) : V G X my cc mL mr R A Q kc kn ws lv pc (.int n :: rest) := by
  subst hn
  have e : "[" ++ FieldType.byte.toString = "[B" := by decide +kernel
  exact V.newa (atype := .byte) (ty := .byte) kA_byte rfl (fun U g => by rw [e]; exact g.1) (fun U c h => by rw [e]; exact va_nm_byte h) (fun c => rfl) (nI_pos (by omega)) (nI_clamp (by omega)) (by show N * 1 ≤ _; omega) h1 h2 hdg kk
theorem V.newJ {n : Int32} (N : Nat) (hn : n = nI N) (hN : N ≤ 1000) (h1 : kc + 1 ≤ R.cells) (h2 : kn + N ≤ R.slots) (hdg : decode cc pc = .ok (.newarray .long, 2)) (kk : ∀ q : Nat, V G X my cc mL mr R A Q (kc + 1) (kn + N) (ws ++ [(q, .inl (gJ G, N, .inr (.inl (fun _ => 0))))]) lv (pc + 2) (.ref q :: rest)) : V G X my cc mL mr R A Q kc kn ws lv pc (.int n :: rest) := by
  subst hn
  have e : "[" ++ FieldType.long.toString = "[J" := by decide +kernel
  exact V.newa (atype := .long) (ty := .long) kA_long rfl (fun U g => by rw [e]; exact g.2.2.1) (fun U c h => by rw [e]; exact va_nm_long h) (fun c => rfl) (nI_pos (by omega)) (nI_clamp (by omega)) (by show N * 8 ≤ _; omega) h1 h2 hdg kk
theorem V.newZ {n : Int32} (N : Nat) (hn : n = nI N) (hN : N ≤ 1000) (h1 : kc + 1 ≤ R.cells) (h2 : kn + N ≤ R.slots) (hdg : decode cc pc = .ok (.newarray .boolean, 2)) (kk : ∀ q : Nat, V G X my cc mL mr R A Q (kc + 1) (kn + N) (ws ++ [(q, .inl (gZ G, N, .inl (fun _ => 0)))]) lv (pc + 2) (.ref q :: rest)) : V G X my cc mL mr R A Q kc kn ws lv pc (.int n :: rest) := by
  subst hn
  have e : "[" ++ FieldType.boolean.toString = "[Z" := by decide +kernel
  exact V.newa (atype := .boolean) (ty := .boolean) kA_boolean rfl (fun U g => by rw [e]; exact g.2.2.2.1) (fun U c h => by rw [e]; exact va_nm_boolean h) (fun c => rfl) (nI_pos (by omega)) (nI_clamp (by omega)) (by show N * 1 ≤ _; omega) h1 h2 hdg kk
end VNEW
theorem init_rep {u1 u2 : Nat → Nat → Int32} (h1 : fr (fun k j => k = 2) (fun _ _ => 0) u1) (h2 : (∀ j, j < 8 → u2 3 j = nI (fst8 j)) ∧ fr (fun k j => k = 3) u1 u2) : mrep (nI 0, nI 0, nI 0) u2 (fun _ _ => 0) [] fst8 0 0 (fun _ => 0) (fun _ => 0) (fun _ => 0) 0 0 [] (fun _ => st0) (fun _ => rd0) := by
  have k : ∀ a b, a ≠ 2 → a ≠ 3 → u2 a b = 0 := fun a b g1 g2 => (h2.2 a b g2).trans (h1 a b g1)
  have s : ∀ x, slotR u2 (fun _ _ => 0) x st0 := fun x => ⟨rfl, rfl, rfl, rfl, rfl, rfl, rfl, rfl, k 22 x (by omega) (by omega), fun i l h => by simp [st0] at h⟩
  refine ⟨rfl, fun i b h => by simp at h, h2.1, rfl, rfl, fun t _ => k 7 t (by omega) (by omega), fun t _ => k 8 t (by omega) (by omega), fun t h => by omega, k 15 0 (by omega) (by omega), rfl, ⟨k 17 0 (by omega) (by omega), fun i c h => by simp at h⟩, fun t _ => s _, fun r _ => ⟨k 10 r (by omega) (by omega), k 11 r (by omega) (by omega), k 12 r (by omega) (by omega), k 13 r (by omega) (by omega), k 14 r (by omega) (by omega)⟩, fun t _ _ => s _⟩
