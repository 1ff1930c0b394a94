section VCALL
variable {G : GG} {X : CX} {my : MethodName} {cc : ByteArray} {mL : Nat} {mr : Option FieldType} {R : Room} {A : Nat → Prop} {Q : State → Prop} {kc kn : Nat} {ws : va_W} {lv : List (Nat × Value)} {pc : Nat} {rest : List Value}
theorem V.iret {S : Type} {wf : S → va_W} {rv : S → Option Value} {post : S → Prop} {v : Int32} (u : S) (hr : mr = some .int) (hv : rv u = some (.int v)) (hp : post u) (hw : wf u = ws) (h1 : kc ≤ R.cells) (h2 : kn ≤ R.slots) (hdg : decode cc pc = .ok (.ireturn, 1)) : V G X my cc mL mr R A (MZ G X R A wf rv post) kc kn ws lv pc [.int v] := by
  intro H locs ls ok hl hP hD hS
  refine W.widen h1 h2 ?_
  exact W.iret ok.1 ok.2.1 (ok.2.2.2.2.2.2.2.2.1.trans hr) (fun t ht hW => ⟨⟨u, by rw [hv], hp, by rw [hw, ht]; exact hP, by rw [hw]; exact hD⟩, hS.F ht⟩) hS.2.2 hdg ok.2.2.2.2.2.2.2.1
theorem V.zret {S : Type} {wf : S → va_W} {rv : S → Option Value} {post : S → Prop} {v : Int32} (u : S) (hr : mr = some .boolean) (hb : narrow .boolean (.int v) = .int v) (hv : rv u = some (.int v)) (hp : post u) (hw : wf u = ws) (h1 : kc ≤ R.cells) (h2 : kn ≤ R.slots) (hdg : decode cc pc = .ok (.ireturn, 1)) : V G X my cc mL mr R A (MZ G X R A wf rv post) kc kn ws lv pc [.int v] := by
  intro H locs ls ok hl hP hD hS
  refine W.widen h1 h2 ?_
  exact W.zret ok.1 ok.2.1 (ok.2.2.2.2.2.2.2.2.1.trans hr) hb (fun t ht hW => ⟨⟨u, by rw [hv], hp, by rw [hw, ht]; exact hP, by rw [hw]; exact hD⟩, hS.F ht⟩) hS.2.2 hdg ok.2.2.2.2.2.2.2.1
theorem V.lret {S : Type} {wf : S → va_W} {rv : S → Option Value} {post : S → Prop} {v : Int64} (u : S) (hr : mr = some .long) (hv : rv u = some (.long v)) (hp : post u) (hw : wf u = ws) (h1 : kc ≤ R.cells) (h2 : kn ≤ R.slots) (hdg : decode cc pc = .ok (.lreturn, 1)) : V G X my cc mL mr R A (MZ G X R A wf rv post) kc kn ws lv pc [.long v] := by
  intro H locs ls ok hl hP hD hS
  refine W.widen h1 h2 ?_
  exact W.lret ok.1 ok.2.1 (ok.2.2.2.2.2.2.2.2.1.trans hr) (fun t ht hW => ⟨⟨u, by rw [hv], hp, by rw [hw, ht]; exact hP, by rw [hw]; exact hD⟩, hS.F ht⟩) hS.2.2 hdg ok.2.2.2.2.2.2.2.1
theorem V.vret {S : Type} {wf : S → va_W} {rv : S → Option Value} {post : S → Prop} (u : S) (hr : mr = none) (hv : rv u = none) (hp : post u) (hw : wf u = ws) (h1 : kc ≤ R.cells) (h2 : kn ≤ R.slots) (hdg : decode cc pc = .ok (.return_, 1)) : V G X my cc mL mr R A (MZ G X R A wf rv post) kc kn ws lv pc [] := by
  intro H locs ls ok hl hP hD hS
  refine W.widen h1 h2 ?_
  exact W.vret ok.1 ok.2.1 (ok.2.2.2.2.2.2.2.2.1.trans hr) (fun t ht hW => ⟨⟨u, by rw [hv], hp, by rw [hw, ht]; exact hP, by rw [hw]; exact hD⟩, hS.F ht⟩) hS.2.2 hdg ok.2.2.2.2.2.2.2.1
theorem V.aret {S : Type} {wf : S → va_W} {rv : S → Option Value} {post : S → Prop} {v : Value} {rt : FieldType} (u : S) (hr : mr = some rt) (hrt : (∃ n, rt = .object n) ∨ ∃ t, rt = .array t) (hva : v = .null ∨ ∃ a, v = .ref a) (hv : rv u = some v) (hp : post u) (hw : wf u = ws) (h1 : kc ≤ R.cells) (h2 : kn ≤ R.slots) (hdg : decode cc pc = .ok (.areturn, 1)) : V G X my cc mL mr R A (MZ G X R A wf rv post) kc kn ws lv pc [v] := by
  intro H locs ls ok hl hP hD hS
  refine W.widen h1 h2 ?_
  exact W.aret ok.1 ok.2.1 (ok.2.2.2.2.2.2.2.2.1.trans hr) hrt hva (fun t ht hW => ⟨⟨u, by rw [hv], hp, by rw [hw, ht]; exact hP, by rw [hw]; exact hD⟩, hS.F ht⟩) hS.2.2 hdg ok.2.2.2.2.2.2.2.1
/-- what a call asks of the world -/
theorem Ct_blind {av : List Value} {sz : Nat} {wc : va_W} : FrameBlind (va_Pc av (fun U => U.heap.size = sz ∧ va_P G.1 vwCl wc U.heap ∧ gK G U ∧ G.2.2 (va_A wc sz) U U.heap ∧ va_D (fun _ => True) wc)) := by
  rintro a U g mk ⟨q0, q1, qP, qK, qE, qD⟩
  exact ⟨q0, q1, qP, gK.moved (u := U) (U := U.calling g mk a) (Vm.Alike.refl U.vm) qK, qK.2.2 _ _ U (U.calling g mk a) _ _ (Vm.Alike.refl U.vm) (fun _ h => h) (fun _ _ _ => rfl) qE, qD⟩
theorem Ct_pre {wc WA WB : va_W} {av : List Value} {H : Heap} {locs : List Loc} (ok : okX G X my cc mL mr A) (hP : va_P G.1 vwCl (WA ++ wc ++ WB) H) (hD : va_D A (WA ++ wc ++ WB)) (hS : va_S A X.2.2.2.1.heap H locs) (U : State) (hU : U.heap = H) (hW : X.2.2.2.1.WarmedH U.vm) :
    va_Pc av (fun U => U.heap.size = H.size ∧ va_P G.1 vwCl wc U.heap ∧ gK G U ∧ G.2.2 (va_A wc H.size) U U.heap ∧ va_D (fun _ => True) wc) av.toArray U := by
  have d := wD_iff.mp hD
  have hF : ∀ q, va_A wc H.size q → A q := fun q h => by
    rcases wA_iff.mp h with h | h
    · obtain ⟨p, hp, rfl⟩ := List.mem_map.mp h
      exact d.2 p (by simp [hp])
    · exact ok.2.2.2.2.2.2.1 q (Nat.le_trans hS.1 h)
  refine ⟨rfl, by rw [hU], by rw [hU]; exact wP_iff.mpr (fun q hq => wP_iff.mp hP q (by simp [hq])), gK.moved hW.alike ok.2.2.2.2.2.1, ?_, wD_iff.mpr ⟨?_, fun _ _ => trivial⟩⟩
  · exact ok.2.2.2.2.2.1.2.2 A (va_A wc H.size) X.2.2.2.1 U X.2.2.2.1.heap U.heap hW.alike hF (fun a h1 h2 => by rw [hU]; exact hS.2.1 a h1 h2) ok.2.2.2.2.2.2.2.2.2.2
  · have := d.1
    simp only [List.map_append, List.nodup_append] at this
    exact this.1.2.1
theorem Ct_free {wc WA WB : va_W} {H : Heap} {locs : List Loc} (ok : okX G X my cc mL mr A) (hD : va_D A (WA ++ wc ++ WB)) (hS : va_S A X.2.2.2.1.heap H locs) : ∀ q, va_A wc H.size q → A q := fun q h => by
  have d := wD_iff.mp hD
  rcases wA_iff.mp h with h | h
  · obtain ⟨p, hp, rfl⟩ := List.mem_map.mp h
    exact d.2 p (by simp [hp])
  · exact ok.2.2.2.2.2.2.1 q (Nat.le_trans hS.1 h)
/-- the end of a call, by the contract's own end -/
theorem V_end {S : Type} {wf : S → va_W} {rv : S → Option Value} {post : S → Prop} {wc WA WB : va_W} {mc ms : Nat} {st0 : List Value} {a : Array Value} {H : Heap} {locs : List Loc} {ls : Array Slot} (ok : okX G X my cc mL mr A) (hl : lv_has ls mL lv) (hP : va_P G.1 vwCl (WA ++ wc ++ WB) H) (hD : va_D A (WA ++ wc ++ WB)) (hS : va_S A X.2.2.2.1.heap H locs)
    (hr : va_Run X.1 X.2.1 X.2.2.1 R X.2.2.2.1 X.2.2.2.2.1 X.2.2.2.2.2.1 X.2.2.2.2.2.2.1 X.2.2.2.2.2.2.2.1 X.2.2.2.2.2.2.2.2 H locs kc kn mc ms (F0 X.2.2.2.2.1 pc ls st0) rest (CQ G (va_A wc H.size) wf rv post a) (va_A wc H.size))
    (kk : ∀ u : S, post u → V G X my cc mL mr R A Q (kc + mc) (kn + ms) (WA ++ wf u ++ WB) lv (pc + 3) ((rv u).toList ++ rest)) :
    W X.1 X.2.1 X.2.2.1 R X.2.2.2.1 X.2.2.2.2.1 X.2.2.2.2.2.1 X.2.2.2.2.2.2.1 X.2.2.2.2.2.2.2.1 X.2.2.2.2.2.2.2.2 H locs kc kn Q (F0 X.2.2.2.2.1 pc ls st0) := by
  intro T hT Y
  obtain ⟨v, st₀, t, T', L, h0, X', hL, e1, e2, ⟨⟨u, hv, hp, hb, hd⟩, hz, hk⟩, st⟩ := hr T hT Y
  obtain ⟨rfl⟩ : v = rv u := by injection hv
  rw [h0] at hz hk
  have hF := Ct_free ok hD hS
  have hk1 : ∀ q : Nat, q < H.size → ¬ va_A wc H.size q → T'.heap[q]? = H[q]? := fun q h1 h2 => by rw [e1]; exact hk q h1 h2
  obtain ⟨jP, jD⟩ := w_join hP hD hk1 hF (by rw [e1]; exact hb) hd
  obtain ⟨t2, a1, b1⟩ := kk u hp T'.heap (locs ++ L) ls ok hl jP jD ⟨Nat.le_trans hS.1 (by rw [e1]; exact hz), fun q h1 h2 => by rw [hk1 q (Nat.lt_of_lt_of_le h1 hS.1) (fun z => h2 (hF q z))]; exact hS.2.1 q h1 h2, fun q hq => by
      rcases List.mem_append.mp hq with h | h
      · exact hS.2.2 q h
      · exact hF _ (hL q h)⟩ T' rfl X'
  exact ⟨t2, st t2 a1, b1⟩
abbrev descOk (y : MethodName) (n : Nat) : Prop := y.cls ≠ "java/lang/invoke/MethodHandle" ∧ y.cls ≠ "java/lang/invoke/VarHandle" ∧ (parseMethodDescriptor y.desc).map (fun d => d.parameters.length) = some n
abbrev roomOk (R rm : Room) (nL : Nat) : Prop := rm.frames + 1 ≤ R.frames ∧ 8 + (nL + 11) + rm.locals ≤ R.locals
theorem V.callV {y2 : MethodName} {cc2 : ByteArray} {nL2 : Nat} {ret2 : Option FieldType} {rm2 : Room} {b idx : Nat} {As st : List Value} {wc : va_W} {S : Type} {wf2 : S → va_W} {rv2 : S → Option Value} {post2 : S → Prop} {r : vw_C} {fs : List Value} (hC : Ct X.2.1 G y2 cc2 nL2 ret2 rm2 (.ref b :: As) wc wf2 rv2 post2) (WA WB : va_W) (rest : List Value) (q0 ci : Nat) (hw : ws = WA ++ wc ++ WB) (hst : st = As.reverse ++ .ref b :: rest) (ho : wc[q0]? = some (b, .inr (ci, fs))) (hc : vwCl[ci]? = some r) (hr : r.1 = y2.cls) (hg : GoodIn lw_good (wsV my.cls idx y2.cls y2 (wz y2 cc2 nL2 ret2))) (hd : descOk y2 As.length) (hR : roomOk R rm2 nL2) (hs : (rest.map fun v => v.category).sum ≤ 8) (hdg : decode cc pc = .ok (.invokevirtual idx, 3)) (hf : kc + rm2.cells ≤ R.cells ∧ kn + rm2.slots ≤ R.slots)
    (kk : ∀ u : S, post2 u → V G X my cc mL mr R A Q (kc + rm2.cells) (kn + rm2.slots) (WA ++ wf2 u ++ WB) lv (pc + 3) ((rv2 u).toList ++ rest)) : V G X my cc mL mr R A Q kc kn ws lv pc st := by
  subst hw; subst hst
  intro H locs ls ok hl hP hD hS
  have hPc : va_P G.1 vwCl wc H := wP_iff.mpr (fun q hq => wP_iff.mp hP q (by simp [hq]))
  refine V_end (a := (Value.ref b :: As).toArray) ok hl hP hD hS ?_ kk
  exact va_runV (As := As) (rest := rest) ⟨ok.1, ok.2.1, ok.2.2.1, ok.2.2.2.1, ok.2.2.2.2.1⟩ (hC H.size) (cwV As.length ok.2.2.2.2.1 hg rfl rfl rfl ⟨rfl, hd⟩ hR) ⟨Ct_blind, hr ▸ va_recv ok.2.2.2.2.2.1.1 hPc hc ho, fun U hU hW => Ct_pre ok hP hD hS U hU hW⟩ rfl rfl hl.1 rfl (lv_room hs) hdg hf
theorem V.callS {y2 : MethodName} {cc2 : ByteArray} {nL2 : Nat} {ret2 : Option FieldType} {rm2 : Room} {idx : Nat} {As st : List Value} {wc : va_W} {S : Type} {wf2 : S → va_W} {rv2 : S → Option Value} {post2 : S → Prop} (hC : Ct X.2.1 G y2 cc2 nL2 ret2 rm2 As wc wf2 rv2 post2) (WA WB : va_W) (rest : List Value) (hw : ws = WA ++ wc ++ WB) (hst : st = As.reverse ++ rest) (hg : GoodIn lw_good (va_wsS my.cls idx y2 (wz y2 cc2 nL2 ret2))) (hd : descOk y2 As.length) (hR : roomOk R rm2 nL2) (hs : (rest.map fun v => v.category).sum ≤ 8) (hdg : decode cc pc = .ok (.invokestatic idx, 3)) (hf : kc + rm2.cells ≤ R.cells ∧ kn + rm2.slots ≤ R.slots)
    (kk : ∀ u : S, post2 u → V G X my cc mL mr R A Q (kc + rm2.cells) (kn + rm2.slots) (WA ++ wf2 u ++ WB) lv (pc + 3) ((rv2 u).toList ++ rest)) : V G X my cc mL mr R A Q kc kn ws lv pc st := by
  subst hw; subst hst
  intro H locs ls ok hl hP hD hS
  refine V_end (a := As.toArray) ok hl hP hD hS ?_ kk
  exact va_runS (As := As) (rest := rest) ⟨ok.1, ok.2.1, ok.2.2.1, ok.2.2.2.1, ok.2.2.2.2.1⟩ (hC H.size) (va_cwS As.length ok.2.2.2.2.1 hg rfl rfl rfl hd hR) ⟨Ct_blind, fun U hU hW => Ct_pre ok hP hD hS U hU hW⟩ rfl rfl hl.1 rfl (lv_room hs) hdg hf
theorem V.callI {y2 : MethodName} {cc2 : ByteArray} {nL2 : Nat} {rm2 : Room} {b idx : Nat} {As st : List Value} {wc : va_W} {S : Type} {wf2 : S → va_W} {rv2 : S → Option Value} {post2 : S → Prop} (hC : Ct X.2.1 G y2 cc2 nL2 none rm2 (.ref b :: As) wc wf2 rv2 post2) (WA WB : va_W) (rest : List Value) (hw : ws = WA ++ wc ++ WB) (hst : st = As.reverse ++ .ref b :: rest) (hcode : Cond.code y2 cc2 nL2 none ∈ lw_good) (hini : Cond.initialized y2.cls ∈ lw_good) (hlink : Cond.methodLink my.cls idx y2 ∈ lw_good) (hinst : Cond.instanceMethod y2 ∈ lw_good) (hy : y2.name = "<init>") (hd : descOk y2 As.length) (hR : roomOk R rm2 nL2) (hs : (rest.map fun v => v.category).sum ≤ 8) (hdg : decode cc pc = .ok (.invokespecial idx, 3)) (hf : kc + rm2.cells ≤ R.cells ∧ kn + rm2.slots ≤ R.slots)
    (kk : ∀ u : S, post2 u → V G X my cc mL mr R A Q (kc + rm2.cells) (kn + rm2.slots) (WA ++ wf2 u ++ WB) lv (pc + 3) ((rv2 u).toList ++ rest)) : V G X my cc mL mr R A Q kc kn ws lv pc st := by
  subst hw; subst hst
  intro H locs ls ok hl hP hD hS
  refine V_end (a := (Value.ref b :: As).toArray) ok hl hP hD hS ?_ kk
  exact va_runI (As := As) (rest := rest) ⟨ok.1, ok.2.1, ok.2.2.1, ok.2.2.2.1, ok.2.2.2.2.1⟩ (hC H.size) (cwI As.length ok.2.2.2.2.1 (goodI hcode) rfl rfl rfl (ok.2.2.2.2.1 _ hini) (ok.2.2.2.2.1 _ hlink) (ok.2.2.2.2.1 _ hinst) hy hd hR) ⟨Ct_blind, fun U hU hW => Ct_pre ok hP hD hS U hU hW⟩ rfl rfl hl.1 rfl (lv_room hs) hdg hf
end VCALL
section VCALL0
variable {G : GG} {X : CX} {my : MethodName} {cc : ByteArray} {mL : Nat} {mr : Option FieldType} {R : Room} {A : Nat → Prop} {Q : State → Prop} {kc kn : Nat} {ws : va_W} {lv : List (Nat × Value)} {pc : Nat}
theorem V.pick {lv' : List (Nat × Value)} {st : List Value} (ks : List Nat) (h : lv_pick lv ks = lv') (k : V G X my cc mL mr R A Q kc kn ws lv' pc st) : V G X my cc mL mr R A Q kc kn ws lv pc st := fun H locs ls ok hl hP hD hS => k H locs ls ok (lv_sub hl ks h) hP hD hS
/-- calls with the whole world -/
theorem V.callV0 {y2 : MethodName} {cc2 : ByteArray} {nL2 : Nat} {ret2 : Option FieldType} {rm2 : Room} {b idx : Nat} {As st : List Value} {S : Type} {wf2 : S → va_W} {rv2 : S → Option Value} {post2 : S → Prop} {r : vw_C} {fs : List Value} (hC : Ct X.2.1 G y2 cc2 nL2 ret2 rm2 (.ref b :: As) ws wf2 rv2 post2) (rest : List Value) (q0 ci : Nat) (hst : st = As.reverse ++ .ref b :: rest) (ho : ws[q0]? = some (b, .inr (ci, fs))) (hc : vwCl[ci]? = some r) (hr : r.1 = y2.cls) (hg : GoodIn lw_good (wsV my.cls idx y2.cls y2 (wz y2 cc2 nL2 ret2))) (hd : descOk y2 As.length) (hR : roomOk R rm2 nL2) (hs : (rest.map fun v => v.category).sum ≤ 8) (hdg : decode cc pc = .ok (.invokevirtual idx, 3)) (hf : kc + rm2.cells ≤ R.cells ∧ kn + rm2.slots ≤ R.slots)
    (kk : ∀ u : S, post2 u → V G X my cc mL mr R A Q (kc + rm2.cells) (kn + rm2.slots) (wf2 u) lv (pc + 3) ((rv2 u).toList ++ rest)) : V G X my cc mL mr R A Q kc kn ws lv pc st :=
  V.callV hC [] [] rest q0 ci (List.append_nil _).symm hst ho hc hr hg hd hR hs hdg hf (fun u hu => V.wd (List.append_nil _) (kk u hu))
theorem V.callS0 {y2 : MethodName} {cc2 : ByteArray} {nL2 : Nat} {ret2 : Option FieldType} {rm2 : Room} {idx : Nat} {As st : List Value} {S : Type} {wf2 : S → va_W} {rv2 : S → Option Value} {post2 : S → Prop} (hC : Ct X.2.1 G y2 cc2 nL2 ret2 rm2 As ws wf2 rv2 post2) (rest : List Value) (hst : st = As.reverse ++ rest) (hg : GoodIn lw_good (va_wsS my.cls idx y2 (wz y2 cc2 nL2 ret2))) (hd : descOk y2 As.length) (hR : roomOk R rm2 nL2) (hs : (rest.map fun v => v.category).sum ≤ 8) (hdg : decode cc pc = .ok (.invokestatic idx, 3)) (hf : kc + rm2.cells ≤ R.cells ∧ kn + rm2.slots ≤ R.slots)
    (kk : ∀ u : S, post2 u → V G X my cc mL mr R A Q (kc + rm2.cells) (kn + rm2.slots) (wf2 u) lv (pc + 3) ((rv2 u).toList ++ rest)) : V G X my cc mL mr R A Q kc kn ws lv pc st :=
  V.callS hC [] [] rest (List.append_nil _).symm hst hg hd hR hs hdg hf (fun u hu => V.wd (List.append_nil _) (kk u hu))
/-- a static method that touches no cell: called from any world -/
theorem V.callSE {y2 : MethodName} {cc2 : ByteArray} {nL2 : Nat} {ret2 : Option FieldType} {rm2 : Room} {idx : Nat} {As st : List Value} {S : Type} {rv2 : S → Option Value} {post2 : S → Prop} (hC : Ct X.2.1 G y2 cc2 nL2 ret2 rm2 As [] (fun _ => []) rv2 post2) (rest : List Value) (hst : st = As.reverse ++ rest) (hg : GoodIn lw_good (va_wsS my.cls idx y2 (wz y2 cc2 nL2 ret2))) (hd : descOk y2 As.length) (hR : roomOk R rm2 nL2) (hs : (rest.map fun v => v.category).sum ≤ 8) (hdg : decode cc pc = .ok (.invokestatic idx, 3)) (hf : kc + rm2.cells ≤ R.cells ∧ kn + rm2.slots ≤ R.slots)
    (kk : ∀ u : S, post2 u → V G X my cc mL mr R A Q (kc + rm2.cells) (kn + rm2.slots) ws lv (pc + 3) ((rv2 u).toList ++ rest)) : V G X my cc mL mr R A Q kc kn ws lv pc st :=
  V.callS hC [] ws rest rfl hst hg hd hR hs hdg hf (fun u hu => kk u hu)
end VCALL0
