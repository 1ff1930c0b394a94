/-! OUR OWN JUDGEMENT V: the kit's W with the world, the locals and the frame as data. -/
def lw_good : List Cond := lw_tbl.filter goodWord
theorem kg {w : Cond} (h : w ∈ lw_tbl) (g : goodWord w = true) : w ∈ lw_good := List.mem_filter.mpr ⟨h, g⟩
theorem lw_good_all : GoodIn lw_good lw_good := fun w h => ⟨h, good_of_word (List.mem_filter.mp h).2⟩
/-- what every contract is about: the classes' numbers and slots, the array classes (byte, int, long, boolean, Object), what is known of the statics -/
abbrev GG : Type := va_G × (ClassId × ClassId × ClassId × ClassId × ClassId) × ((Nat → Prop) → State → Heap → Prop)
abbrev gB (G : GG) : ClassId := G.2.1.1
abbrev gI (G : GG) : ClassId := G.2.1.2.1
abbrev gJ (G : GG) : ClassId := G.2.1.2.2.1
abbrev gZ (G : GG) : ClassId := G.2.1.2.2.2.1
abbrev gO (G : GG) : ClassId := G.2.1.2.2.2.2
def tg (G : GG) : List (ClassId × FieldType) := [(gB G, .byte), (gI G, .int), (gJ G, .long), (gZ G, .boolean), (gO G, .object "java/lang/Object")]
/-- what is known of the statics stays so over calls and writes of others -/
def EOK (G : GG) : Prop := ∀ (A B : Nat → Prop) (u U : State) (H H1 : Heap), u.vm.Alike U.vm → (∀ q, B q → A q) → (∀ a : Nat, a < H.size → ¬ A a → H1[a]? = H[a]?) → G.2.2 A u H → G.2.2 B U H1
/-- the classes of the arrays, by name -/
def gN (G : GG) (U : State) : Prop := U.vm.findClass "[B" = some (gB G) ∧ U.vm.findClass "[I" = some (gI G) ∧ U.vm.findClass "[J" = some (gJ G) ∧ U.vm.findClass "[Z" = some (gZ G) ∧ U.vm.findClass "[Ljava/lang/Object;" = some (gO G)
def gK (G : GG) (U : State) : Prop := va_K G.1 vwCl (tg G) U ∧ gN G U ∧ EOK G
abbrev CX : Type := Program × Launch × Env × State × MethodId × Array Value × List Frame × Method × Code
def okX (G : GG) (X : CX) (my : MethodName) (cc : ByteArray) (mL : Nat) (mr : Option FieldType) (A : Nat → Prop) : Prop :=
  X.1.tables.exec = Jvm.exec ∧ X.2.2.2.2.2.2.2.2.code = cc ∧ X.2.2.2.2.2.2.2.2.maxLocals = mL ∧ X.2.2.2.1.vm.findClass my.cls = some X.2.2.2.2.1.cls ∧ (∀ w ∈ lw_good, w.before X.2.2.2.2.2.1 X.2.2.2.1 = true) ∧ gK G X.2.2.2.1 ∧ (∀ q : Nat, X.2.2.2.1.heap.size ≤ q → A q) ∧ X.2.2.2.2.2.2.2.1.locks = false ∧ X.2.2.2.2.2.2.2.1.sig.returnType = mr ∧ X.2.2.2.2.2.2.2.1.name = my.name ∧ G.2.2 A X.2.2.2.1 X.2.2.2.1.heap
def V (G : GG) (X : CX) (my : MethodName) (cc : ByteArray) (mL : Nat) (mr : Option FieldType) (R : Room) (A : Nat → Prop) (Q : State → Prop) (kc kn : Nat) (ws : va_W) (lv : List (Nat × Value)) (pc : Nat) (st : List Value) : Prop :=
  ∀ (H : Heap) (locs : List Loc) (ls : Array Slot), okX G X my cc mL mr A → lv_has ls mL lv → va_P G.1 vwCl ws H → va_D A ws → va_S A X.2.2.2.1.heap H locs →
    W X.1 X.2.1 X.2.2.1 R X.2.2.2.1 X.2.2.2.2.1 X.2.2.2.2.2.1 X.2.2.2.2.2.2.1 X.2.2.2.2.2.2.2.1 X.2.2.2.2.2.2.2.2 H locs kc kn Q (F0 X.2.2.2.2.1 pc ls st)
def lk : List (Nat × Value) → Nat → Option Value
  | [], _ => none
  | q :: l, i => if q.1 = i then some q.2 else lk l i
theorem lk_mem : ∀ (l : List (Nat × Value)) (i : Nat) (v : Value), lk l i = some v → (i, v) ∈ l
  | [], _, _, h => by simp [lk] at h
  | q :: l, i, v, h => by
    simp only [lk] at h
    by_cases hq : q.1 = i
    · rw [if_pos hq] at h
      cases h
      subst hq
      exact List.mem_cons_self
    · rw [if_neg hq] at h
      exact List.mem_cons_of_mem _ (lk_mem l i v h)
theorem lk_at {ls : Array Slot} {n : Nat} {lv : List (Nat × Value)} {i : Nat} {v : Value} (h : lv_has ls n lv) (hk : lk lv i = some v) : ls[i]? = some (.val v) := h.2.2 _ (lk_mem _ _ _ hk)
/-- a contract's end -/
def CQ (G : GG) (A : Nat → Prop) {S : Type} (wf : S → va_W) (rv : S → Option Value) (post : S → Prop) : Array Value → State → Outcome → State → Prop := fun _ st oc t => (∃ u : S, oc = .returned (rv u) ∧ post u ∧ va_P G.1 vwCl (wf u) t.heap ∧ va_D A (wf u)) ∧ va_F A st t
abbrev wz (y : MethodName) (cc : ByteArray) (nL : Nat) (ret : Option FieldType) : List Cond := .code y cc nL ret :: lw_good
/-- a contract: from the world ws, with the arguments av, the method returns rv u, the world is wf u, for a u with post u -/
def Ct (l : Launch) (G : GG) (y : MethodName) (cc : ByteArray) (nL : Nat) (ret : Option FieldType) (rm : Room) (av : List Value) (ws : va_W) {S : Type} (wf : S → va_W) (rv : S → Option Value) (post : S → Prop) : Prop :=
  ∀ sz : Nat, Met l y (wz y cc nL ret) rm (va_Pc av (fun U => U.heap.size = sz ∧ va_P G.1 vwCl ws U.heap ∧ gK G U ∧ G.2.2 (va_A ws sz) U U.heap ∧ va_D (fun _ => True) ws)) (CQ G (va_A ws sz) wf rv post) rm.cells rm.slots (va_A ws sz)
abbrev MZ (G : GG) (X : CX) (R : Room) (A : Nat → Prop) {S : Type} (wf : S → va_W) (rv : S → Option Value) (post : S → Prop) : State → Prop := MQ X.2.2.2.2.2.2.1 (CQ G A wf rv post) X.2.2.2.2.2.1 X.2.2.2.1 R.cells R.slots A
theorem gK.moved {G : GG} {u U : State} (h : u.vm.Alike U.vm) (k : gK G u) : gK G U := by
  have f : ∀ (C : String) (c : ClassId), u.vm.findClass C = some c → U.vm.findClass C = some c := fun C c e => by rw [h.findClass]; exact e
  exact ⟨va_K.moved h k.1, ⟨f _ _ k.2.1.1, f _ _ k.2.1.2.1, f _ _ k.2.1.2.2.1, f _ _ k.2.1.2.2.2.1, f _ _ k.2.1.2.2.2.2⟩, k.2.2⟩
set_option maxHeartbeats 1000000 in
theorem Ct.of {l : Launch} {G : GG} {y : MethodName} {cc : ByteArray} {nL : Nat} {ret : Option FieldType} {rm : Room} {av : List Value} {ws : va_W} {S : Type} {wf : S → va_W} {rv : S → Option Value} {post : S → Prop}
    (hy : plainName y.cls = true) (hn : (lg_sl av).length ≤ nL)
    (h : ∀ (X : CX) (A : Nat → Prop), X.2.1 = l → V G X y cc nL ret rm A (MZ G X rm A wf rv post) 0 0 ws (lv_args 0 av) 0 []) : Ct l G y cc nL ret rm av ws wf rv post := by
  intro sz
  refine Met.ofW (cc := cc) (maxL := nL) (ret := ret) hy rfl ?_
  intro p e s m args below meth c s₁ B hml hv
  obtain ⟨rfl, hsz, hP, hK, hE, hD0⟩ := hv
  have hts0 := atoms_spec (ws := wz y cc nL ret) B.pre
  have hts : ∀ w ∈ lw_good, w.before av.toArray s = true := fun w hw => hts0 w (List.mem_cons_of_mem _ hw)
  have hown : s.vm.findClass y.cls = some m.cls := findClass_of_methodNamed B.named
  have hnm : meth.name = y.name := (name_of_methodNamed B.named B.method).1
  subst hsz
  have hD := hD0.self (sz := s.heap.size)
  have hl := lv_entry av (n := nL) hn
  rw [lg_entry_eq]
  exact h (p, l, e, s, m, av.toArray, below, meth, c) (va_A ws s.heap.size) rfl s.heap [] _ ⟨B.exec, B.bytes, hml, hown, hts, hK, fun q h => Or.inr h, B.notSynchronized, B.returns, hnm, hE⟩ hl hP hD va_S.rf
