section
-- ===== PART A: goes FIRST, ahead of the names: the tables' words, and 'selects' of the private methods out of them =====
/-- a private method of a class that the tables say can be made, by its rows of tables_1 -/
def lw_okq (q : MethodName × Nat) : Prop := (q.1.cls ≠ "java/lang/invoke/MethodHandle" ∧ q.1.cls ≠ "java/lang/invoke/VarHandle") ∧ Cond.instantiable q.1.cls q.2 ∈ tables_1 ∧ Cond.privateMethod q.1 ∈ tables_1 ∧ Cond.instanceMethod q.1 ∈ tables_1
theorem lw_p0 : lw_okq (⟨"java/util/ArrayList", "add", "(Ljava/lang/Object;[Ljava/lang/Object;I)V"⟩, 3) := ⟨⟨by decide +kernel, by decide +kernel⟩, List.mem_of_getElem? (i := 74) (by decide +kernel), List.mem_of_getElem? (i := 405) (by decide +kernel), List.mem_of_getElem? (i := 406) (by decide +kernel)⟩
theorem lw_p1 : lw_okq (⟨"java/util/ArrayList", "grow", "()[Ljava/lang/Object;"⟩, 3) := ⟨⟨by decide +kernel, by decide +kernel⟩, List.mem_of_getElem? (i := 74) (by decide +kernel), List.mem_of_getElem? (i := 409) (by decide +kernel), List.mem_of_getElem? (i := 410) (by decide +kernel)⟩
theorem lw_p2 : lw_okq (⟨"java/util/ArrayList", "grow", "(I)[Ljava/lang/Object;"⟩, 3) := ⟨⟨by decide +kernel, by decide +kernel⟩, List.mem_of_getElem? (i := 74) (by decide +kernel), List.mem_of_getElem? (i := 413) (by decide +kernel), List.mem_of_getElem? (i := 414) (by decide +kernel)⟩
theorem lw_p3 : lw_okq (⟨"EvenGranary$Realm", "unload", "()V"⟩, 4) := ⟨⟨by decide +kernel, by decide +kernel⟩, List.mem_of_getElem? (i := 68) (by decide +kernel), List.mem_of_getElem? (i := 518) (by decide +kernel), List.mem_of_getElem? (i := 519) (by decide +kernel)⟩
theorem lw_p4 : lw_okq (⟨"EvenGranary$Convoys", "isThere", "(I)Z"⟩, 4) := ⟨⟨by decide +kernel, by decide +kernel⟩, List.mem_of_getElem? (i := 100) (by decide +kernel), List.mem_of_getElem? (i := 530) (by decide +kernel), List.mem_of_getElem? (i := 531) (by decide +kernel)⟩
theorem lw_p5 : lw_okq (⟨"EvenGranary$Realm", "reapAndPayBack", "()V"⟩, 4) := ⟨⟨by decide +kernel, by decide +kernel⟩, List.mem_of_getElem? (i := 68) (by decide +kernel), List.mem_of_getElem? (i := 560) (by decide +kernel), List.mem_of_getElem? (i := 561) (by decide +kernel)⟩
theorem lw_p6 : lw_okq (⟨"EvenGranary$Realm", "trade", "(LEvenGranary$Town;LEvenGranary$Edict;)V"⟩, 4) := ⟨⟨by decide +kernel, by decide +kernel⟩, List.mem_of_getElem? (i := 68) (by decide +kernel), List.mem_of_getElem? (i := 575) (by decide +kernel), List.mem_of_getElem? (i := 576) (by decide +kernel)⟩
theorem lw_p7 : lw_okq (⟨"EvenGranary$Store", "lessen", "(II)V"⟩, 8) := ⟨⟨by decide +kernel, by decide +kernel⟩, List.mem_of_getElem? (i := 323) (by decide +kernel), List.mem_of_getElem? (i := 605) (by decide +kernel), List.mem_of_getElem? (i := 606) (by decide +kernel)⟩
theorem lw_p8 : lw_okq (⟨"EvenGranary$Store", "cut", "(II)V"⟩, 8) := ⟨⟨by decide +kernel, by decide +kernel⟩, List.mem_of_getElem? (i := 323) (by decide +kernel), List.mem_of_getElem? (i := 613) (by decide +kernel), List.mem_of_getElem? (i := 614) (by decide +kernel)⟩
theorem lw_p9 : lw_okq (⟨"EvenGranary$Realm", "ageStores", "(LEvenGranary$Edict;)V"⟩, 4) := ⟨⟨by decide +kernel, by decide +kernel⟩, List.mem_of_getElem? (i := 68) (by decide +kernel), List.mem_of_getElem? (i := 622) (by decide +kernel), List.mem_of_getElem? (i := 623) (by decide +kernel)⟩
theorem lw_p10 : lw_okq (⟨"EvenGranary", "roadAt", "(I)LEvenGranary$Road;"⟩, 5) := ⟨⟨by decide +kernel, by decide +kernel⟩, List.mem_of_getElem? (i := 24) (by decide +kernel), List.mem_of_getElem? (i := 644) (by decide +kernel), List.mem_of_getElem? (i := 645) (by decide +kernel)⟩
theorem lw_p11 : lw_okq (⟨"EvenGranary", "movable", "(ILEvenGranary$Road;)I"⟩, 5) := ⟨⟨by decide +kernel, by decide +kernel⟩, List.mem_of_getElem? (i := 24) (by decide +kernel), List.mem_of_getElem? (i := 648) (by decide +kernel), List.mem_of_getElem? (i := 649) (by decide +kernel)⟩
theorem lw_p12 : lw_okq (⟨"EvenGranary", "takenByRoad", "(I)J"⟩, 5) := ⟨⟨by decide +kernel, by decide +kernel⟩, List.mem_of_getElem? (i := 24) (by decide +kernel), List.mem_of_getElem? (i := 795) (by decide +kernel), List.mem_of_getElem? (i := 796) (by decide +kernel)⟩
theorem lw_p13 : lw_okq (⟨"EvenGranaryModel", "push", "(I)V"⟩, 34) := ⟨⟨by decide +kernel, by decide +kernel⟩, List.mem_of_getElem? (i := 799) (by decide +kernel), List.mem_of_getElem? (i := 917) (by decide +kernel), List.mem_of_getElem? (i := 918) (by decide +kernel)⟩
theorem lw_p14 : lw_okq (⟨"EvenGranaryModel", "reads", "(I)I"⟩, 34) := ⟨⟨by decide +kernel, by decide +kernel⟩, List.mem_of_getElem? (i := 799) (by decide +kernel), List.mem_of_getElem? (i := 925) (by decide +kernel), List.mem_of_getElem? (i := 926) (by decide +kernel)⟩
theorem lw_p15 : lw_okq (⟨"EvenGranaryModel", "at", "(II)I"⟩, 34) := ⟨⟨by decide +kernel, by decide +kernel⟩, List.mem_of_getElem? (i := 799) (by decide +kernel), List.mem_of_getElem? (i := 929) (by decide +kernel), List.mem_of_getElem? (i := 930) (by decide +kernel)⟩
def lw_privs_1 : List (MethodName × Nat) := [(⟨"java/util/ArrayList", "add", "(Ljava/lang/Object;[Ljava/lang/Object;I)V"⟩, 3), (⟨"java/util/ArrayList", "grow", "()[Ljava/lang/Object;"⟩, 3), (⟨"java/util/ArrayList", "grow", "(I)[Ljava/lang/Object;"⟩, 3), (⟨"EvenGranary$Realm", "unload", "()V"⟩, 4), (⟨"EvenGranary$Convoys", "isThere", "(I)Z"⟩, 4), (⟨"EvenGranary$Realm", "reapAndPayBack", "()V"⟩, 4), (⟨"EvenGranary$Realm", "trade", "(LEvenGranary$Town;LEvenGranary$Edict;)V"⟩, 4), (⟨"EvenGranary$Store", "lessen", "(II)V"⟩, 8), (⟨"EvenGranary$Store", "cut", "(II)V"⟩, 8), (⟨"EvenGranary$Realm", "ageStores", "(LEvenGranary$Edict;)V"⟩, 4), (⟨"EvenGranary", "roadAt", "(I)LEvenGranary$Road;"⟩, 5), (⟨"EvenGranary", "movable", "(ILEvenGranary$Road;)I"⟩, 5), (⟨"EvenGranary", "takenByRoad", "(I)J"⟩, 5), (⟨"EvenGranaryModel", "push", "(I)V"⟩, 34), (⟨"EvenGranaryModel", "reads", "(I)I"⟩, 34), (⟨"EvenGranaryModel", "at", "(II)I"⟩, 34)]
theorem lw_r1 : ∀ q ∈ lw_privs_1, lw_okq q := List.forall_mem_cons.mpr ⟨lw_p0, List.forall_mem_cons.mpr ⟨lw_p1, List.forall_mem_cons.mpr ⟨lw_p2, List.forall_mem_cons.mpr ⟨lw_p3, List.forall_mem_cons.mpr ⟨lw_p4, List.forall_mem_cons.mpr ⟨lw_p5, List.forall_mem_cons.mpr ⟨lw_p6, List.forall_mem_cons.mpr ⟨lw_p7, List.forall_mem_cons.mpr ⟨lw_p8, List.forall_mem_cons.mpr ⟨lw_p9, List.forall_mem_cons.mpr ⟨lw_p10, List.forall_mem_cons.mpr ⟨lw_p11, List.forall_mem_cons.mpr ⟨lw_p12, List.forall_mem_cons.mpr ⟨lw_p13, List.forall_mem_cons.mpr ⟨lw_p14, List.forall_mem_cons.mpr ⟨lw_p15, fun _ h => absurd h List.not_mem_nil⟩⟩⟩⟩⟩⟩⟩⟩⟩⟩⟩⟩⟩⟩⟩⟩
theorem lw_p16 : lw_okq (⟨"EvenGranaryModel", "isTown", "(I)Z"⟩, 34) := ⟨⟨by decide +kernel, by decide +kernel⟩, List.mem_of_getElem? (i := 799) (by decide +kernel), List.mem_of_getElem? (i := 960) (by decide +kernel), List.mem_of_getElem? (i := 961) (by decide +kernel)⟩
theorem lw_p17 : lw_okq (⟨"EvenGranaryModel", "goesBy", "(I[I)V"⟩, 34) := ⟨⟨by decide +kernel, by decide +kernel⟩, List.mem_of_getElem? (i := 799) (by decide +kernel), List.mem_of_getElem? (i := 980) (by decide +kernel), List.mem_of_getElem? (i := 981) (by decide +kernel)⟩
theorem lw_p18 : lw_okq (⟨"EvenGranaryModel", "cartsCome", "(I)V"⟩, 34) := ⟨⟨by decide +kernel, by decide +kernel⟩, List.mem_of_getElem? (i := 799) (by decide +kernel), List.mem_of_getElem? (i := 984) (by decide +kernel), List.mem_of_getElem? (i := 985) (by decide +kernel)⟩
theorem lw_p19 : lw_okq (⟨"EvenGranaryModel", "space", "(II)J"⟩, 34) := ⟨⟨by decide +kernel, by decide +kernel⟩, List.mem_of_getElem? (i := 799) (by decide +kernel), List.mem_of_getElem? (i := 988) (by decide +kernel), List.mem_of_getElem? (i := 989) (by decide +kernel)⟩
theorem lw_p20 : lw_okq (⟨"EvenGranaryModel", "trueIn", "(I)J"⟩, 34) := ⟨⟨by decide +kernel, by decide +kernel⟩, List.mem_of_getElem? (i := 799) (by decide +kernel), List.mem_of_getElem? (i := 992) (by decide +kernel), List.mem_of_getElem? (i := 993) (by decide +kernel)⟩
theorem lw_p21 : lw_okq (⟨"EvenGranaryModel", "comes", "(IJI)V"⟩, 34) := ⟨⟨by decide +kernel, by decide +kernel⟩, List.mem_of_getElem? (i := 799) (by decide +kernel), List.mem_of_getElem? (i := 999) (by decide +kernel), List.mem_of_getElem? (i := 1000) (by decide +kernel)⟩
theorem lw_p22 : lw_okq (⟨"EvenGranaryModel", "harvests", "(II)V"⟩, 34) := ⟨⟨by decide +kernel, by decide +kernel⟩, List.mem_of_getElem? (i := 799) (by decide +kernel), List.mem_of_getElem? (i := 1003) (by decide +kernel), List.mem_of_getElem? (i := 1004) (by decide +kernel)⟩
theorem lw_p23 : lw_okq (⟨"EvenGranaryModel", "trades", "(II[I)V"⟩, 34) := ⟨⟨by decide +kernel, by decide +kernel⟩, List.mem_of_getElem? (i := 799) (by decide +kernel), List.mem_of_getElem? (i := 1007) (by decide +kernel), List.mem_of_getElem? (i := 1008) (by decide +kernel)⟩
theorem lw_p24 : lw_okq (⟨"EvenGranaryModel", "price", "(II)J"⟩, 34) := ⟨⟨by decide +kernel, by decide +kernel⟩, List.mem_of_getElem? (i := 799) (by decide +kernel), List.mem_of_getElem? (i := 1011) (by decide +kernel), List.mem_of_getElem? (i := 1012) (by decide +kernel)⟩
theorem lw_p25 : lw_okq (⟨"EvenGranaryModel", "takes", "(IJ)V"⟩, 34) := ⟨⟨by decide +kernel, by decide +kernel⟩, List.mem_of_getElem? (i := 799) (by decide +kernel), List.mem_of_getElem? (i := 1015) (by decide +kernel), List.mem_of_getElem? (i := 1016) (by decide +kernel)⟩
theorem lw_p26 : lw_okq (⟨"EvenGranaryModel", "goes", "(II)V"⟩, 34) := ⟨⟨by decide +kernel, by decide +kernel⟩, List.mem_of_getElem? (i := 799) (by decide +kernel), List.mem_of_getElem? (i := 1019) (by decide +kernel), List.mem_of_getElem? (i := 1020) (by decide +kernel)⟩
theorem lw_p27 : lw_okq (⟨"EvenGranaryModel", "spoils", "(II[I)V"⟩, 34) := ⟨⟨by decide +kernel, by decide +kernel⟩, List.mem_of_getElem? (i := 799) (by decide +kernel), List.mem_of_getElem? (i := 1023) (by decide +kernel), List.mem_of_getElem? (i := 1024) (by decide +kernel)⟩
theorem lw_p28 : lw_okq (⟨"EvenGranaryModel", "turns", "(III)V"⟩, 34) := ⟨⟨by decide +kernel, by decide +kernel⟩, List.mem_of_getElem? (i := 799) (by decide +kernel), List.mem_of_getElem? (i := 1029) (by decide +kernel), List.mem_of_getElem? (i := 1030) (by decide +kernel)⟩
theorem lw_p29 : lw_okq (⟨"EvenGranaryModel", "begins", "(II)Z"⟩, 34) := ⟨⟨by decide +kernel, by decide +kernel⟩, List.mem_of_getElem? (i := 799) (by decide +kernel), List.mem_of_getElem? (i := 1037) (by decide +kernel), List.mem_of_getElem? (i := 1038) (by decide +kernel)⟩
theorem lw_p30 : lw_okq (⟨"EvenGranaryModel", "sends", "(IIII)V"⟩, 34) := ⟨⟨by decide +kernel, by decide +kernel⟩, List.mem_of_getElem? (i := 799) (by decide +kernel), List.mem_of_getElem? (i := 1041) (by decide +kernel), List.mem_of_getElem? (i := 1042) (by decide +kernel)⟩
theorem lw_p31 : lw_okq (⟨"EvenGranaryModel", "bookIn", "(IZ)J"⟩, 34) := ⟨⟨by decide +kernel, by decide +kernel⟩, List.mem_of_getElem? (i := 799) (by decide +kernel), List.mem_of_getElem? (i := 1062) (by decide +kernel), List.mem_of_getElem? (i := 1063) (by decide +kernel)⟩
def lw_privs_2 : List (MethodName × Nat) := [(⟨"EvenGranaryModel", "isTown", "(I)Z"⟩, 34), (⟨"EvenGranaryModel", "goesBy", "(I[I)V"⟩, 34), (⟨"EvenGranaryModel", "cartsCome", "(I)V"⟩, 34), (⟨"EvenGranaryModel", "space", "(II)J"⟩, 34), (⟨"EvenGranaryModel", "trueIn", "(I)J"⟩, 34), (⟨"EvenGranaryModel", "comes", "(IJI)V"⟩, 34), (⟨"EvenGranaryModel", "harvests", "(II)V"⟩, 34), (⟨"EvenGranaryModel", "trades", "(II[I)V"⟩, 34), (⟨"EvenGranaryModel", "price", "(II)J"⟩, 34), (⟨"EvenGranaryModel", "takes", "(IJ)V"⟩, 34), (⟨"EvenGranaryModel", "goes", "(II)V"⟩, 34), (⟨"EvenGranaryModel", "spoils", "(II[I)V"⟩, 34), (⟨"EvenGranaryModel", "turns", "(III)V"⟩, 34), (⟨"EvenGranaryModel", "begins", "(II)Z"⟩, 34), (⟨"EvenGranaryModel", "sends", "(IIII)V"⟩, 34), (⟨"EvenGranaryModel", "bookIn", "(IZ)J"⟩, 34)]
theorem lw_r2 : ∀ q ∈ lw_privs_2, lw_okq q := List.forall_mem_cons.mpr ⟨lw_p16, List.forall_mem_cons.mpr ⟨lw_p17, List.forall_mem_cons.mpr ⟨lw_p18, List.forall_mem_cons.mpr ⟨lw_p19, List.forall_mem_cons.mpr ⟨lw_p20, List.forall_mem_cons.mpr ⟨lw_p21, List.forall_mem_cons.mpr ⟨lw_p22, List.forall_mem_cons.mpr ⟨lw_p23, List.forall_mem_cons.mpr ⟨lw_p24, List.forall_mem_cons.mpr ⟨lw_p25, List.forall_mem_cons.mpr ⟨lw_p26, List.forall_mem_cons.mpr ⟨lw_p27, List.forall_mem_cons.mpr ⟨lw_p28, List.forall_mem_cons.mpr ⟨lw_p29, List.forall_mem_cons.mpr ⟨lw_p30, List.forall_mem_cons.mpr ⟨lw_p31, fun _ h => absurd h List.not_mem_nil⟩⟩⟩⟩⟩⟩⟩⟩⟩⟩⟩⟩⟩⟩⟩⟩
theorem lw_p32 : lw_okq (⟨"EvenGranaryModel", "copies", "()V"⟩, 34) := ⟨⟨by decide +kernel, by decide +kernel⟩, List.mem_of_getElem? (i := 799) (by decide +kernel), List.mem_of_getElem? (i := 1070) (by decide +kernel), List.mem_of_getElem? (i := 1071) (by decide +kernel)⟩
theorem lw_p33 : lw_okq (⟨"EvenGranaryModel", "goesOn", "(I)J"⟩, 34) := ⟨⟨by decide +kernel, by decide +kernel⟩, List.mem_of_getElem? (i := 799) (by decide +kernel), List.mem_of_getElem? (i := 1074) (by decide +kernel), List.mem_of_getElem? (i := 1075) (by decide +kernel)⟩
theorem lw_p34 : lw_okq (⟨"EvenGranaryModel", "hungerIn", "(I)J"⟩, 34) := ⟨⟨by decide +kernel, by decide +kernel⟩, List.mem_of_getElem? (i := 799) (by decide +kernel), List.mem_of_getElem? (i := 1078) (by decide +kernel), List.mem_of_getElem? (i := 1079) (by decide +kernel)⟩
def lw_privs_3 : List (MethodName × Nat) := [(⟨"EvenGranaryModel", "copies", "()V"⟩, 34), (⟨"EvenGranaryModel", "goesOn", "(I)J"⟩, 34), (⟨"EvenGranaryModel", "hungerIn", "(I)J"⟩, 34)]
theorem lw_r3 : ∀ q ∈ lw_privs_3, lw_okq q := List.forall_mem_cons.mpr ⟨lw_p32, List.forall_mem_cons.mpr ⟨lw_p33, List.forall_mem_cons.mpr ⟨lw_p34, fun _ h => absurd h List.not_mem_nil⟩⟩⟩
def lw_privs : List (MethodName × Nat) := lw_privs_1 ++ (lw_privs_2 ++ (lw_privs_3))
def lw_tbl : List Cond := k2_sels lw_privs ++ tables_1
theorem lw_privs_ok : ∀ q ∈ lw_privs, lw_okq q := by
  show ∀ q ∈ lw_privs_1 ++ (lw_privs_2 ++ (lw_privs_3)), lw_okq q
  exact List.forall_mem_append.mpr ⟨lw_r1, List.forall_mem_append.mpr ⟨lw_r2, lw_r3⟩⟩
end
section
def RX0 : String := "EvenGranary$Convoys"
def TX0 : u_T := fun k => match k with
  | 0 => ("EvenGranary$Convoys", "targets", "[I", true)
  | 1 => ("EvenGranary$Convoys", "arrivals", "[I", true)
  | 2 => ("EvenGranary$Convoys", "loads", "[I", true)
  | _ => ("EvenGranary$Convoys", "size", "I", false)
def tyX0 : Nat → FieldType := fun k => match k with
  | 0 => .array .int
  | 1 => .array .int
  | 2 => .array .int
  | _ => .int
abbrev wsX00 : List Cond := u_ws RX0 TX0 4
theorem nmX0 : ∀ a, a < 4 → ∀ b, b < 4 → a ≠ b → (TX0 a).2.1 ≠ (TX0 b).2.1 := by decide +kernel
theorem tyX0_ok : ∀ k, k < 4 → parseFieldDescriptor (TX0 k).2.2.1 = some (tyX0 k) := by decide +kernel
abbrev cX0_init : ByteArray := prog_2_method_1_code
def yX0_init : MethodName := ⟨RX0, "<init>", "()V"⟩
abbrev cX0_size : ByteArray := prog_2_method_2_code
def yX0_size : MethodName := ⟨RX0, "size", "()I"⟩
abbrev cX0_isFull : ByteArray := prog_2_method_3_code
def yX0_isFull : MethodName := ⟨RX0, "isFull", "()Z"⟩
abbrev cX0_add : ByteArray := prog_2_method_4_code
def yX0_add : MethodName := ⟨RX0, "add", "(III)V"⟩
abbrev cX0_arrives : ByteArray := prog_2_method_5_code
def yX0_arrives : MethodName := ⟨RX0, "arrives", "(II)Z"⟩
abbrev cX0_targetOf : ByteArray := prog_2_method_6_code
def yX0_targetOf : MethodName := ⟨RX0, "targetOf", "(I)I"⟩
abbrev cX0_loadOf : ByteArray := prog_2_method_7_code
def yX0_loadOf : MethodName := ⟨RX0, "loadOf", "(I)I"⟩
abbrev cX0_removeArrived : ByteArray := prog_2_method_8_code
def yX0_removeArrived : MethodName := ⟨RX0, "removeArrived", "(I)V"⟩
abbrev cX0_loadInAll : ByteArray := prog_2_method_9_code
def yX0_loadInAll : MethodName := ⟨RX0, "loadInAll", "()J"⟩
abbrev cX0_imitate : ByteArray := prog_2_method_10_code
def yX0_imitate : MethodName := ⟨RX0, "imitate", "(LEvenGranary$Convoys;)V"⟩
abbrev cX0_isThere : ByteArray := prog_2_method_11_code
def yX0_isThere : MethodName := ⟨RX0, "isThere", "(I)Z"⟩
def RX1 : String := "EvenGranary$Edict"
def TX1 : u_T := fun k => match k with
  | 0 => ("EvenGranary$Edict", "numbers", "[I", true)
  | _ => ("EvenGranary$Edict", "draft", "[I", true)
def tyX1 : Nat → FieldType := fun k => match k with
  | 0 => .array .int
  | _ => .array .int
abbrev wsX10 : List Cond := u_ws RX1 TX1 2
theorem nmX1 : ∀ a, a < 2 → ∀ b, b < 2 → a ≠ b → (TX1 a).2.1 ≠ (TX1 b).2.1 := by decide +kernel
theorem tyX1_ok : ∀ k, k < 2 → parseFieldDescriptor (TX1 k).2.2.1 = some (tyX1 k) := by decide +kernel
abbrev cX1_init : ByteArray := prog_3_method_1_code
def yX1_init : MethodName := ⟨RX1, "<init>", "()V"⟩
abbrev cX1_letterIndex : ByteArray := prog_3_method_2_code
def yX1_letterIndex : MethodName := ⟨RX1, "letterIndex", "(I)I"⟩
abbrev cX1_number : ByteArray := prog_3_method_3_code
def yX1_number : MethodName := ⟨RX1, "number", "(I)I"⟩
abbrev cX1_proclaim : ByteArray := prog_3_method_4_code
def yX1_proclaim : MethodName := ⟨RX1, "proclaim", "(LEvenGranary$Tape;I)I"⟩
abbrev cX1_digitsEnd : ByteArray := prog_3_method_5_code
def yX1_digitsEnd : MethodName := ⟨RX1, "digitsEnd", "(LEvenGranary$Tape;II)I"⟩
abbrev cX1_numberAt : ByteArray := prog_3_method_6_code
def yX1_numberAt : MethodName := ⟨RX1, "numberAt", "(LEvenGranary$Tape;II)I"⟩
abbrev cX1_fault : ByteArray := prog_3_method_7_code
def yX1_fault : MethodName := ⟨RX1, "fault", "(II)I"⟩
def RX2 : String := "EvenGranary$Realm"
def TX2 : u_T := fun k => match k with
  | 0 => ("EvenGranary$Realm", "month", "I", false)
  | 1 => ("EvenGranary$Realm", "coin", "J", false)
  | 2 => ("EvenGranary$Realm", "towns", "Ljava/util/ArrayList;", true)
  | _ => ("EvenGranary$Realm", "convoys", "LEvenGranary$Convoys;", true)
def tyX2 : Nat → FieldType := fun k => match k with
  | 0 => .int
  | 1 => .long
  | 2 => .object "java/util/ArrayList"
  | _ => .object "EvenGranary$Convoys"
abbrev wsX20 : List Cond := u_ws RX2 TX2 4
theorem nmX2 : ∀ a, a < 4 → ∀ b, b < 4 → a ≠ b → (TX2 a).2.1 ≠ (TX2 b).2.1 := by decide +kernel
theorem tyX2_ok : ∀ k, k < 4 → parseFieldDescriptor (TX2 k).2.2.1 = some (tyX2 k) := by decide +kernel
abbrev cX2_init : ByteArray := prog_4_method_1_code
def yX2_init : MethodName := ⟨RX2, "<init>", "()V"⟩
abbrev cX2_townCount : ByteArray := prog_4_method_2_code
def yX2_townCount : MethodName := ⟨RX2, "townCount", "()I"⟩
abbrev cX2_townAt : ByteArray := prog_4_method_3_code
def yX2_townAt : MethodName := ⟨RX2, "townAt", "(I)LEvenGranary$Town;"⟩
abbrev cX2_settle : ByteArray := prog_4_method_4_code
def yX2_settle : MethodName := ⟨RX2, "settle", "(LEvenGranary$Town;)V"⟩
abbrev cX2_canSend : ByteArray := prog_4_method_5_code
def yX2_canSend : MethodName := ⟨RX2, "canSend", "()Z"⟩
abbrev cX2_send : ByteArray := prog_4_method_6_code
def yX2_send : MethodName := ⟨RX2, "send", "(ILEvenGranary$Road;I)V"⟩
abbrev cX2_measuresOnTheWay : ByteArray := prog_4_method_7_code
def yX2_measuresOnTheWay : MethodName := ⟨RX2, "measuresOnTheWay", "()J"⟩
abbrev cX2_hungerEver : ByteArray := prog_4_method_8_code
def yX2_hungerEver : MethodName := ⟨RX2, "hungerEver", "()J"⟩
abbrev cX2_passMonths : ByteArray := prog_4_method_9_code
def yX2_passMonths : MethodName := ⟨RX2, "passMonths", "(ILEvenGranary$Edict;)J"⟩
abbrev cX2_imitate : ByteArray := prog_4_method_10_code
def yX2_imitate : MethodName := ⟨RX2, "imitate", "(LEvenGranary$Realm;)V"⟩
abbrev cX2_unload : ByteArray := prog_4_method_11_code
def yX2_unload : MethodName := ⟨RX2, "unload", "()V"⟩
abbrev cX2_reapAndPayBack : ByteArray := prog_4_method_12_code
def yX2_reapAndPayBack : MethodName := ⟨RX2, "reapAndPayBack", "()V"⟩
abbrev cX2_trade : ByteArray := prog_4_method_13_code
def yX2_trade : MethodName := ⟨RX2, "trade", "(LEvenGranary$Town;LEvenGranary$Edict;)V"⟩
abbrev cX2_ageStores : ByteArray := prog_4_method_14_code
def yX2_ageStores : MethodName := ⟨RX2, "ageStores", "(LEvenGranary$Edict;)V"⟩
def RX3 : String := "EvenGranary$Road"
def TX3 : u_T := fun k => match k with
  | 0 => ("EvenGranary$Road", "a", "I", true)
  | 1 => ("EvenGranary$Road", "b", "I", true)
  | 2 => ("EvenGranary$Road", "way", "I", true)
  | 3 => ("EvenGranary$Road", "carts", "I", true)
  | _ => ("EvenGranary$Road", "taken", "I", false)
def tyX3 : Nat → FieldType := fun k => match k with
  | 0 => .int
  | 1 => .int
  | 2 => .int
  | 3 => .int
  | _ => .int
abbrev wsX30 : List Cond := u_ws RX3 TX3 5
theorem nmX3 : ∀ a, a < 5 → ∀ b, b < 5 → a ≠ b → (TX3 a).2.1 ≠ (TX3 b).2.1 := by decide +kernel
theorem tyX3_ok : ∀ k, k < 5 → parseFieldDescriptor (TX3 k).2.2.1 = some (tyX3 k) := by decide +kernel
abbrev cX3_init : ByteArray := prog_5_method_1_code
def yX3_init : MethodName := ⟨RX3, "<init>", "(IIII)V"⟩
abbrev cX3_touches : ByteArray := prog_5_method_2_code
def yX3_touches : MethodName := ⟨RX3, "touches", "(I)Z"⟩
abbrev cX3_otherEnd : ByteArray := prog_5_method_3_code
def yX3_otherEnd : MethodName := ⟨RX3, "otherEnd", "(I)I"⟩
def RX4 : String := "EvenGranary$Store"
def TX4 : u_T := fun k => match k with
  | 0 => ("EvenGranary$Store", "months", "[I", true)
  | 1 => ("EvenGranary$Store", "books", "[I", true)
  | 2 => ("EvenGranary$Store", "trues", "[I", true)
  | 3 => ("EvenGranary$Store", "measured", "[I", true)
  | 4 => ("EvenGranary$Store", "lots", "I", false)
  | 5 => ("EvenGranary$Store", "room", "I", false)
  | 6 => ("EvenGranary$Store", "held", "I", false)
  | _ => ("EvenGranary$Store", "found", "J", false)
def tyX4 : Nat → FieldType := fun k => match k with
  | 0 => .array .int
  | 1 => .array .int
  | 2 => .array .int
  | 3 => .array .int
  | 4 => .int
  | 5 => .int
  | 6 => .int
  | _ => .long
abbrev wsX40 : List Cond := u_ws RX4 TX4 8
theorem nmX4 : ∀ a, a < 8 → ∀ b, b < 8 → a ≠ b → (TX4 a).2.1 ≠ (TX4 b).2.1 := by decide +kernel
theorem tyX4_ok : ∀ k, k < 8 → parseFieldDescriptor (TX4 k).2.2.1 = some (tyX4 k) := by decide +kernel
abbrev cX4_init : ByteArray := prog_6_method_1_code
def yX4_init : MethodName := ⟨RX4, "<init>", "(I)V"⟩
abbrev cX4_room : ByteArray := prog_6_method_2_code
def yX4_room : MethodName := ⟨RX4, "room", "()I"⟩
abbrev cX4_held : ByteArray := prog_6_method_3_code
def yX4_held : MethodName := ⟨RX4, "held", "()I"⟩
abbrev cX4_space : ByteArray := prog_6_method_4_code
def yX4_space : MethodName := ⟨RX4, "space", "()I"⟩
abbrev cX4_lotCount : ByteArray := prog_6_method_5_code
def yX4_lotCount : MethodName := ⟨RX4, "lotCount", "()I"⟩
abbrev cX4_foundEver : ByteArray := prog_6_method_6_code
def yX4_foundEver : MethodName := ⟨RX4, "foundEver", "()J"⟩
abbrev cX4_hasLot : ByteArray := prog_6_method_7_code
def yX4_hasLot : MethodName := ⟨RX4, "hasLot", "(I)Z"⟩
abbrev cX4_monthOf : ByteArray := prog_6_method_8_code
def yX4_monthOf : MethodName := ⟨RX4, "monthOf", "(I)I"⟩
abbrev cX4_bookOf : ByteArray := prog_6_method_9_code
def yX4_bookOf : MethodName := ⟨RX4, "bookOf", "(I)I"⟩
abbrev cX4_measuredOf : ByteArray := prog_6_method_10_code
def yX4_measuredOf : MethodName := ⟨RX4, "measuredOf", "(I)I"⟩
abbrev cX4_bookInAll : ByteArray := prog_6_method_11_code
def yX4_bookInAll : MethodName := ⟨RX4, "bookInAll", "()J"⟩
abbrev cX4_unmeasuredBook : ByteArray := prog_6_method_12_code
def yX4_unmeasuredBook : MethodName := ⟨RX4, "unmeasuredBook", "()J"⟩
abbrev cX4_put : ByteArray := prog_6_method_13_code
def yX4_put : MethodName := ⟨RX4, "put", "(II)V"⟩
abbrev cX4_take : ByteArray := prog_6_method_14_code
def yX4_take : MethodName := ⟨RX4, "take", "(I)V"⟩
abbrev cX4_pilfer : ByteArray := prog_6_method_15_code
def yX4_pilfer : MethodName := ⟨RX4, "pilfer", "(I)V"⟩
abbrev cX4_audit : ByteArray := prog_6_method_16_code
def yX4_audit : MethodName := ⟨RX4, "audit", "(I)I"⟩
abbrev cX4_spoil : ByteArray := prog_6_method_17_code
def yX4_spoil : MethodName := ⟨RX4, "spoil", "(II)J"⟩
abbrev cX4_imitate : ByteArray := prog_6_method_18_code
def yX4_imitate : MethodName := ⟨RX4, "imitate", "(LEvenGranary$Store;)V"⟩
abbrev cX4_lessen : ByteArray := prog_6_method_19_code
def yX4_lessen : MethodName := ⟨RX4, "lessen", "(II)V"⟩
abbrev cX4_cut : ByteArray := prog_6_method_20_code
def yX4_cut : MethodName := ⟨RX4, "cut", "(II)V"⟩
def RX5 : String := "EvenGranary$Tape"
def TX5 : u_T := fun k => match k with
  | 0 => ("EvenGranary$Tape", "bytes", "[I", true)
  | _ => ("EvenGranary$Tape", "length", "I", false)
def tyX5 : Nat → FieldType := fun k => match k with
  | 0 => .array .int
  | _ => .int
abbrev wsX50 : List Cond := u_ws RX5 TX5 2
theorem nmX5 : ∀ a, a < 2 → ∀ b, b < 2 → a ≠ b → (TX5 a).2.1 ≠ (TX5 b).2.1 := by decide +kernel
theorem tyX5_ok : ∀ k, k < 2 → parseFieldDescriptor (TX5 k).2.2.1 = some (tyX5 k) := by decide +kernel
abbrev cX5_init : ByteArray := prog_7_method_1_code
def yX5_init : MethodName := ⟨RX5, "<init>", "()V"⟩
abbrev cX5_length : ByteArray := prog_7_method_2_code
def yX5_length : MethodName := ⟨RX5, "length", "()I"⟩
abbrev cX5_hasRoomFor : ByteArray := prog_7_method_3_code
def yX5_hasRoomFor : MethodName := ⟨RX5, "hasRoomFor", "(I)Z"⟩
abbrev cX5_append : ByteArray := prog_7_method_4_code
def yX5_append : MethodName := ⟨RX5, "append", "(I)V"⟩
abbrev cX5_byteAt : ByteArray := prog_7_method_5_code
def yX5_byteAt : MethodName := ⟨RX5, "byteAt", "(I)I"⟩
abbrev cX5_wipe : ByteArray := prog_7_method_6_code
def yX5_wipe : MethodName := ⟨RX5, "wipe", "()V"⟩
def RX6 : String := "EvenGranary$Town"
def TX6 : u_T := fun k => match k with
  | 0 => ("EvenGranary$Town", "eats", "I", false)
  | 1 => ("EvenGranary$Town", "market", "J", false)
  | 2 => ("EvenGranary$Town", "store", "LEvenGranary$Store;", true)
  | 3 => ("EvenGranary$Town", "harvest", "I", false)
  | 4 => ("EvenGranary$Town", "owes", "J", false)
  | 5 => ("EvenGranary$Town", "hunger", "J", false)
  | 6 => ("EvenGranary$Town", "spoilt", "J", false)
  | 7 => ("EvenGranary$Town", "bought", "J", false)
  | 8 => ("EvenGranary$Town", "sold", "J", false)
  | _ => ("EvenGranary$Town", "stolen", "J", false)
def tyX6 : Nat → FieldType := fun k => match k with
  | 0 => .int
  | 1 => .long
  | 2 => .object "EvenGranary$Store"
  | 3 => .int
  | 4 => .long
  | 5 => .long
  | 6 => .long
  | 7 => .long
  | 8 => .long
  | _ => .long
abbrev wsX60 : List Cond := u_ws RX6 TX6 10
theorem nmX6 : ∀ a, a < 10 → ∀ b, b < 10 → a ≠ b → (TX6 a).2.1 ≠ (TX6 b).2.1 := by decide +kernel
theorem tyX6_ok : ∀ k, k < 10 → parseFieldDescriptor (TX6 k).2.2.1 = some (tyX6 k) := by decide +kernel
abbrev cX6_init : ByteArray := prog_8_method_1_code
def yX6_init : MethodName := ⟨RX6, "<init>", "(III)V"⟩
abbrev cX6_price : ByteArray := prog_8_method_2_code
def yX6_price : MethodName := ⟨RX6, "price", "()I"⟩
abbrev cX6_receive : ByteArray := prog_8_method_3_code
def yX6_receive : MethodName := ⟨RX6, "receive", "(II)V"⟩
abbrev cX6_reap : ByteArray := prog_8_method_4_code
def yX6_reap : MethodName := ⟨RX6, "reap", "()V"⟩
abbrev cX6_payBack : ByteArray := prog_8_method_5_code
def yX6_payBack : MethodName := ⟨RX6, "payBack", "(I)V"⟩
abbrev cX6_buy : ByteArray := prog_8_method_6_code
def yX6_buy : MethodName := ⟨RX6, "buy", "(II)V"⟩
abbrev cX6_sell : ByteArray := prog_8_method_7_code
def yX6_sell : MethodName := ⟨RX6, "sell", "(I)V"⟩
abbrev cX6_lend : ByteArray := prog_8_method_8_code
def yX6_lend : MethodName := ⟨RX6, "lend", "(II)V"⟩
abbrev cX6_eat : ByteArray := prog_8_method_9_code
def yX6_eat : MethodName := ⟨RX6, "eat", "()J"⟩
abbrev cX6_spoilLots : ByteArray := prog_8_method_10_code
def yX6_spoilLots : MethodName := ⟨RX6, "spoilLots", "(II)V"⟩
abbrev cX6_turnOver : ByteArray := prog_8_method_11_code
def yX6_turnOver : MethodName := ⟨RX6, "turnOver", "(II)V"⟩
abbrev cX6_imitate : ByteArray := prog_8_method_12_code
def yX6_imitate : MethodName := ⟨RX6, "imitate", "(LEvenGranary$Town;)V"⟩
def RX7 : String := "EvenGranary"
def TX7 : u_T := fun k => match k with
  | 0 => ("EvenGranary", "tape", "LEvenGranary$Tape;", true)
  | 1 => ("EvenGranary", "law", "LEvenGranary$Edict;", true)
  | 2 => ("EvenGranary", "realm", "LEvenGranary$Realm;", true)
  | 3 => ("EvenGranary", "trial", "LEvenGranary$Realm;", true)
  | _ => ("EvenGranary", "roads", "Ljava/util/ArrayList;", true)
def tyX7 : Nat → FieldType := fun k => match k with
  | 0 => .object "EvenGranary$Tape"
  | 1 => .object "EvenGranary$Edict"
  | 2 => .object "EvenGranary$Realm"
  | 3 => .object "EvenGranary$Realm"
  | _ => .object "java/util/ArrayList"
abbrev wsX70 : List Cond := u_ws RX7 TX7 5
theorem nmX7 : ∀ a, a < 5 → ∀ b, b < 5 → a ≠ b → (TX7 a).2.1 ≠ (TX7 b).2.1 := by decide +kernel
theorem tyX7_ok : ∀ k, k < 5 → parseFieldDescriptor (TX7 k).2.2.1 = some (tyX7 k) := by decide +kernel
abbrev cX7_init : ByteArray := prog_1_method_1_code
def yX7_init : MethodName := ⟨RX7, "<init>", "()V"⟩
abbrev cX7_feed : ByteArray := prog_1_method_2_code
def yX7_feed : MethodName := ⟨RX7, "feed", "(IIIII)I"⟩
abbrev cX7_edict : ByteArray := prog_1_method_3_code
def yX7_edict : MethodName := ⟨RX7, "edict", "(I)I"⟩
abbrev cX7_rule : ByteArray := prog_1_method_4_code
def yX7_rule : MethodName := ⟨RX7, "rule", "(I)I"⟩
abbrev cX7_town : ByteArray := prog_1_method_5_code
def yX7_town : MethodName := ⟨RX7, "town", "(III)I"⟩
abbrev cX7_road : ByteArray := prog_1_method_6_code
def yX7_road : MethodName := ⟨RX7, "road", "(IIII)I"⟩
abbrev cX7_coin : ByteArray := prog_1_method_7_code
def yX7_coin : MethodName := ⟨RX7, "coin", "(J)Z"⟩
abbrev cX7_harvest : ByteArray := prog_1_method_8_code
def yX7_harvest : MethodName := ⟨RX7, "harvest", "(II)Z"⟩
abbrev cX7_step : ByteArray := prog_1_method_9_code
def yX7_step : MethodName := ⟨RX7, "step", "(I)I"⟩
abbrev cX7_move : ByteArray := prog_1_method_10_code
def yX7_move : MethodName := ⟨RX7, "move", "(III)Z"⟩
abbrev cX7_loan : ByteArray := prog_1_method_11_code
def yX7_loan : MethodName := ⟨RX7, "loan", "(II)J"⟩
abbrev cX7_steal : ByteArray := prog_1_method_12_code
def yX7_steal : MethodName := ⟨RX7, "steal", "(II)Z"⟩
abbrev cX7_measure : ByteArray := prog_1_method_13_code
def yX7_measure : MethodName := ⟨RX7, "measure", "(II)I"⟩
abbrev cX7_missing : ByteArray := prog_1_method_14_code
def yX7_missing : MethodName := ⟨RX7, "missing", "(II)J"⟩
abbrev cX7_foretold : ByteArray := prog_1_method_15_code
def yX7_foretold : MethodName := ⟨RX7, "foretold", "(I)J"⟩
abbrev cX7_best : ByteArray := prog_1_method_16_code
def yX7_best : MethodName := ⟨RX7, "best", "(II)I"⟩
abbrev cX7_look : ByteArray := prog_1_method_17_code
def yX7_look : MethodName := ⟨RX7, "look", "(II)J"⟩
abbrev cX7_lot : ByteArray := prog_1_method_18_code
def yX7_lot : MethodName := ⟨RX7, "lot", "(III)I"⟩
abbrev cX7_count : ByteArray := prog_1_method_19_code
def yX7_count : MethodName := ⟨RX7, "count", "(I)J"⟩
abbrev cX7_takenByRoad : ByteArray := prog_1_method_20_code
def yX7_takenByRoad : MethodName := ⟨RX7, "takenByRoad", "(I)J"⟩
abbrev cX7_roadAt : ByteArray := prog_1_method_21_code
def yX7_roadAt : MethodName := ⟨RX7, "roadAt", "(I)LEvenGranary$Road;"⟩
abbrev cX7_movable : ByteArray := prog_1_method_22_code
def yX7_movable : MethodName := ⟨RX7, "movable", "(ILEvenGranary$Road;)I"⟩
abbrev cX7_isWithin : ByteArray := prog_1_method_23_code
def yX7_isWithin : MethodName := ⟨RX7, "isWithin", "(III)Z"⟩
def RX8 : String := "EvenGranaryModel"
def TX8 : u_T := fun k => match k with
  | 0 => ("EvenGranaryModel", "tape", "[B", true)
  | 1 => ("EvenGranaryModel", "taped", "I", false)
  | 2 => ("EvenGranaryModel", "edict", "[I", true)
  | 3 => ("EvenGranaryModel", "next", "[I", true)
  | 4 => ("EvenGranaryModel", "read", "[I", true)
  | 5 => ("EvenGranaryModel", "towns", "I", false)
  | 6 => ("EvenGranaryModel", "roads", "I", false)
  | 7 => ("EvenGranaryModel", "eats", "[I", true)
  | 8 => ("EvenGranaryModel", "room", "[I", true)
  | 9 => ("EvenGranaryModel", "harvest", "[I", true)
  | 10 => ("EvenGranaryModel", "roadA", "[I", true)
  | 11 => ("EvenGranaryModel", "roadB", "[I", true)
  | 12 => ("EvenGranaryModel", "ways", "[I", true)
  | 13 => ("EvenGranaryModel", "carts", "[I", true)
  | 14 => ("EvenGranaryModel", "used", "[I", true)
  | 15 => ("EvenGranaryModel", "month", "[I", true)
  | 16 => ("EvenGranaryModel", "coin", "[J", true)
  | 17 => ("EvenGranaryModel", "onWay", "[I", true)
  | 18 => ("EvenGranaryModel", "cartTo", "[I", true)
  | 19 => ("EvenGranaryModel", "cartAt", "[I", true)
  | 20 => ("EvenGranaryModel", "cartHas", "[I", true)
  | 21 => ("EvenGranaryModel", "market", "[J", true)
  | 22 => ("EvenGranaryModel", "lots", "[I", true)
  | 23 => ("EvenGranaryModel", "found", "[J", true)
  | 24 => ("EvenGranaryModel", "hunger", "[J", true)
  | 25 => ("EvenGranaryModel", "spoilt", "[J", true)
  | 26 => ("EvenGranaryModel", "owes", "[J", true)
  | 27 => ("EvenGranaryModel", "bought", "[J", true)
  | 28 => ("EvenGranaryModel", "sold", "[J", true)
  | 29 => ("EvenGranaryModel", "stolen", "[J", true)
  | 30 => ("EvenGranaryModel", "lotMonth", "[I", true)
  | 31 => ("EvenGranaryModel", "book", "[I", true)
  | 32 => ("EvenGranaryModel", "real", "[I", true)
  | _ => ("EvenGranaryModel", "isSure", "[Z", true)
def tyX8 : Nat → FieldType := fun k => match k with
  | 0 => .array .byte
  | 1 => .int
  | 2 => .array .int
  | 3 => .array .int
  | 4 => .array .int
  | 5 => .int
  | 6 => .int
  | 7 => .array .int
  | 8 => .array .int
  | 9 => .array .int
  | 10 => .array .int
  | 11 => .array .int
  | 12 => .array .int
  | 13 => .array .int
  | 14 => .array .int
  | 15 => .array .int
  | 16 => .array .long
  | 17 => .array .int
  | 18 => .array .int
  | 19 => .array .int
  | 20 => .array .int
  | 21 => .array .long
  | 22 => .array .int
  | 23 => .array .long
  | 24 => .array .long
  | 25 => .array .long
  | 26 => .array .long
  | 27 => .array .long
  | 28 => .array .long
  | 29 => .array .long
  | 30 => .array .int
  | 31 => .array .int
  | 32 => .array .int
  | _ => .array .boolean
abbrev wsX80 : List Cond := u_ws RX8 TX8 34
theorem nmX8 : ∀ a, a < 34 → ∀ b, b < 34 → a ≠ b → (TX8 a).2.1 ≠ (TX8 b).2.1 := by decide +kernel
theorem tyX8_ok : ∀ k, k < 34 → parseFieldDescriptor (TX8 k).2.2.1 = some (tyX8 k) := by decide +kernel
abbrev cX8_init : ByteArray := prog_10_method_1_code
def yX8_init : MethodName := ⟨RX8, "<init>", "()V"⟩
abbrev cX8_lies : ByteArray := prog_10_method_2_code
def yX8_lies : MethodName := ⟨RX8, "lies", "(JJJ)Z"⟩
abbrev cX8_push : ByteArray := prog_10_method_3_code
def yX8_push : MethodName := ⟨RX8, "push", "(I)V"⟩
abbrev cX8_feed : ByteArray := prog_10_method_4_code
def yX8_feed : MethodName := ⟨RX8, "feed", "(IIIII)I"⟩
abbrev cX8_asAtFirst : ByteArray := prog_10_method_5_code
def yX8_asAtFirst : MethodName := ⟨RX8, "asAtFirst", "([I)V"⟩
abbrev cX8_letter : ByteArray := prog_10_method_6_code
def yX8_letter : MethodName := ⟨RX8, "letter", "(I)I"⟩
abbrev cX8_canBe : ByteArray := prog_10_method_7_code
def yX8_canBe : MethodName := ⟨RX8, "canBe", "(II)Z"⟩
abbrev cX8_at : ByteArray := prog_10_method_8_code
def yX8_at : MethodName := ⟨RX8, "at", "(II)I"⟩
abbrev cX8_reads : ByteArray := prog_10_method_9_code
def yX8_reads : MethodName := ⟨RX8, "reads", "(I)I"⟩
abbrev cX8_edict : ByteArray := prog_10_method_10_code
def yX8_edict : MethodName := ⟨RX8, "edict", "(I)I"⟩
abbrev cX8_rule : ByteArray := prog_10_method_11_code
def yX8_rule : MethodName := ⟨RX8, "rule", "(I)I"⟩
abbrev cX8_town : ByteArray := prog_10_method_12_code
def yX8_town : MethodName := ⟨RX8, "town", "(III)I"⟩
abbrev cX8_isTown : ByteArray := prog_10_method_13_code
def yX8_isTown : MethodName := ⟨RX8, "isTown", "(I)Z"⟩
abbrev cX8_road : ByteArray := prog_10_method_14_code
def yX8_road : MethodName := ⟨RX8, "road", "(IIII)I"⟩
abbrev cX8_coin : ByteArray := prog_10_method_15_code
def yX8_coin : MethodName := ⟨RX8, "coin", "(J)Z"⟩
abbrev cX8_harvest : ByteArray := prog_10_method_16_code
def yX8_harvest : MethodName := ⟨RX8, "harvest", "(II)Z"⟩
abbrev cX8_trueIn : ByteArray := prog_10_method_17_code
def yX8_trueIn : MethodName := ⟨RX8, "trueIn", "(I)J"⟩
abbrev cX8_bookIn : ByteArray := prog_10_method_18_code
def yX8_bookIn : MethodName := ⟨RX8, "bookIn", "(IZ)J"⟩
abbrev cX8_goes : ByteArray := prog_10_method_19_code
def yX8_goes : MethodName := ⟨RX8, "goes", "(II)V"⟩
abbrev cX8_takes : ByteArray := prog_10_method_20_code
def yX8_takes : MethodName := ⟨RX8, "takes", "(IJ)V"⟩
abbrev cX8_comes : ByteArray := prog_10_method_21_code
def yX8_comes : MethodName := ⟨RX8, "comes", "(IJI)V"⟩
abbrev cX8_least : ByteArray := prog_10_method_22_code
def yX8_least : MethodName := ⟨RX8, "least", "(JJ)J"⟩
abbrev cX8_space : ByteArray := prog_10_method_23_code
def yX8_space : MethodName := ⟨RX8, "space", "(II)J"⟩
abbrev cX8_price : ByteArray := prog_10_method_24_code
def yX8_price : MethodName := ⟨RX8, "price", "(II)J"⟩
abbrev cX8_cartsCome : ByteArray := prog_10_method_25_code
def yX8_cartsCome : MethodName := ⟨RX8, "cartsCome", "(I)V"⟩
abbrev cX8_harvests : ByteArray := prog_10_method_26_code
def yX8_harvests : MethodName := ⟨RX8, "harvests", "(II)V"⟩
abbrev cX8_trades : ByteArray := prog_10_method_27_code
def yX8_trades : MethodName := ⟨RX8, "trades", "(II[I)V"⟩
abbrev cX8_spoils : ByteArray := prog_10_method_28_code
def yX8_spoils : MethodName := ⟨RX8, "spoils", "(II[I)V"⟩
abbrev cX8_turns : ByteArray := prog_10_method_29_code
def yX8_turns : MethodName := ⟨RX8, "turns", "(III)V"⟩
abbrev cX8_goesBy : ByteArray := prog_10_method_30_code
def yX8_goesBy : MethodName := ⟨RX8, "goesBy", "(I[I)V"⟩
abbrev cX8_step : ByteArray := prog_10_method_31_code
def yX8_step : MethodName := ⟨RX8, "step", "(I)I"⟩
abbrev cX8_begins : ByteArray := prog_10_method_32_code
def yX8_begins : MethodName := ⟨RX8, "begins", "(II)Z"⟩
abbrev cX8_sends : ByteArray := prog_10_method_33_code
def yX8_sends : MethodName := ⟨RX8, "sends", "(IIII)V"⟩
abbrev cX8_move : ByteArray := prog_10_method_34_code
def yX8_move : MethodName := ⟨RX8, "move", "(III)Z"⟩
abbrev cX8_loan : ByteArray := prog_10_method_35_code
def yX8_loan : MethodName := ⟨RX8, "loan", "(II)J"⟩
abbrev cX8_steal : ByteArray := prog_10_method_36_code
def yX8_steal : MethodName := ⟨RX8, "steal", "(II)Z"⟩
abbrev cX8_measure : ByteArray := prog_10_method_37_code
def yX8_measure : MethodName := ⟨RX8, "measure", "(II)I"⟩
abbrev cX8_missing : ByteArray := prog_10_method_38_code
def yX8_missing : MethodName := ⟨RX8, "missing", "(II)J"⟩
abbrev cX8_copies : ByteArray := prog_10_method_39_code
def yX8_copies : MethodName := ⟨RX8, "copies", "()V"⟩
abbrev cX8_hungerIn : ByteArray := prog_10_method_40_code
def yX8_hungerIn : MethodName := ⟨RX8, "hungerIn", "(I)J"⟩
abbrev cX8_goesOn : ByteArray := prog_10_method_41_code
def yX8_goesOn : MethodName := ⟨RX8, "goesOn", "(I)J"⟩
abbrev cX8_foretold : ByteArray := prog_10_method_42_code
def yX8_foretold : MethodName := ⟨RX8, "foretold", "(I)J"⟩
abbrev cX8_best : ByteArray := prog_10_method_43_code
def yX8_best : MethodName := ⟨RX8, "best", "(II)I"⟩
abbrev cX8_look : ByteArray := prog_10_method_44_code
def yX8_look : MethodName := ⟨RX8, "look", "(II)J"⟩
abbrev cX8_lot : ByteArray := prog_10_method_45_code
def yX8_lot : MethodName := ⟨RX8, "lot", "(III)I"⟩
abbrev cX8_count : ByteArray := prog_10_method_46_code
def yX8_count : MethodName := ⟨RX8, "count", "(I)J"⟩
def RJx145de : String := "java/io/Serializable"
def TJx145de : u_T := fun k => match k with
  | _ => ("", "", "", false)
def tyJx145de : Nat → FieldType := fun k => match k with
  | _ => .int
abbrev wsJx145de0 : List Cond := u_ws RJx145de TJx145de 0
theorem nmJx145de : ∀ a, a < 0 → ∀ b, b < 0 → a ≠ b → (TJx145de a).2.1 ≠ (TJx145de b).2.1 := by decide +kernel
theorem tyJx145de_ok : ∀ k, k < 0 → parseFieldDescriptor (TJx145de k).2.2.1 = some (tyJx145de k) := by decide +kernel
def RJ11 : String := "java/lang/Character"
def TJ11 : u_T := fun k => match k with
  | _ => ("", "", "", false)
def tyJ11 : Nat → FieldType := fun k => match k with
  | _ => .int
abbrev wsJ110 : List Cond := u_ws RJ11 TJ11 0
theorem nmJ11 : ∀ a, a < 0 → ∀ b, b < 0 → a ≠ b → (TJ11 a).2.1 ≠ (TJ11 b).2.1 := by decide +kernel
theorem tyJ11_ok : ∀ k, k < 0 → parseFieldDescriptor (TJ11 k).2.2.1 = some (tyJ11 k) := by decide +kernel
abbrev cJ11_isValidCodePoint_9a6ad : ByteArray := prog_12_method_11_code
def yJ11_isValidCodePoint_9a6ad : MethodName := ⟨RJ11, "isValidCodePoint", "(I)Z"⟩
abbrev cJ11_highSurrogate_5068e : ByteArray := prog_12_method_28_code
def yJ11_highSurrogate_5068e : MethodName := ⟨RJ11, "highSurrogate", "(I)C"⟩
abbrev cJ11_lowSurrogate_5068e : ByteArray := prog_12_method_29_code
def yJ11_lowSurrogate_5068e : MethodName := ⟨RJ11, "lowSurrogate", "(I)C"⟩
def RJx8e188 : String := "java/lang/Cloneable"
def TJx8e188 : u_T := fun k => match k with
  | _ => ("", "", "", false)
def tyJx8e188 : Nat → FieldType := fun k => match k with
  | _ => .int
abbrev wsJx8e1880 : List Cond := u_ws RJx8e188 TJx8e188 0
theorem nmJx8e188 : ∀ a, a < 0 → ∀ b, b < 0 → a ≠ b → (TJx8e188 a).2.1 ≠ (TJx8e188 b).2.1 := by decide +kernel
theorem tyJx8e188_ok : ∀ k, k < 0 → parseFieldDescriptor (TJx8e188 k).2.2.1 = some (tyJx8e188 k) := by decide +kernel
def RJxab1ab : String := "java/lang/Iterable"
def TJxab1ab : u_T := fun k => match k with
  | _ => ("", "", "", false)
def tyJxab1ab : Nat → FieldType := fun k => match k with
  | _ => .int
abbrev wsJxab1ab0 : List Cond := u_ws RJxab1ab TJxab1ab 0
theorem nmJxab1ab : ∀ a, a < 0 → ∀ b, b < 0 → a ≠ b → (TJxab1ab a).2.1 ≠ (TJxab1ab b).2.1 := by decide +kernel
theorem tyJxab1ab_ok : ∀ k, k < 0 → parseFieldDescriptor (TJxab1ab k).2.2.1 = some (tyJxab1ab k) := by decide +kernel
def RJ9 : String := "java/lang/Math"
def TJ9 : u_T := fun k => match k with
  | _ => ("", "", "", false)
def tyJ9 : Nat → FieldType := fun k => match k with
  | _ => .int
abbrev wsJ90 : List Cond := u_ws RJ9 TJ9 0
theorem nmJ9 : ∀ a, a < 0 → ∀ b, b < 0 → a ≠ b → (TJ9 a).2.1 ≠ (TJ9 b).2.1 := by decide +kernel
theorem tyJ9_ok : ∀ k, k < 0 → parseFieldDescriptor (TJ9 k).2.2.1 = some (tyJ9 k) := by decide +kernel
abbrev cJ9_max_7cf53 : ByteArray := prog_15_method_65_code
def yJ9_max_7cf53 : MethodName := ⟨RJ9, "max", "(II)I"⟩
abbrev cJ9_min_7cf53 : ByteArray := prog_15_method_69_code
def yJ9_min_7cf53 : MethodName := ⟨RJ9, "min", "(II)I"⟩
abbrev cJ9_min_f86c9 : ByteArray := prog_15_method_70_code
def yJ9_min_f86c9 : MethodName := ⟨RJ9, "min", "(JJ)J"⟩
def RJ0 : String := "java/lang/String"
def TJ0 : u_T := fun k => match k with
  | _ => ("", "", "", false)
def tyJ0 : Nat → FieldType := fun k => match k with
  | _ => .int
abbrev wsJ00 : List Cond := u_ws RJ0 TJ0 0
theorem nmJ0 : ∀ a, a < 0 → ∀ b, b < 0 → a ≠ b → (TJ0 a).2.1 ≠ (TJ0 b).2.1 := by decide +kernel
theorem tyJ0_ok : ∀ k, k < 0 → parseFieldDescriptor (TJ0 k).2.2.1 = some (tyJ0 k) := by decide +kernel
abbrev cJ0_length_8abf5 : ByteArray := prog_16_method_54_code
def yJ0_length_8abf5 : MethodName := ⟨RJ0, "length", "()I"⟩
abbrev cJ0_indexOf_0f7a4 : ByteArray := prog_16_method_79_code
def yJ0_indexOf_0f7a4 : MethodName := ⟨RJ0, "indexOf", "(I)I"⟩
abbrev cJ0_indexOf_7cf53 : ByteArray := prog_16_method_80_code
def yJ0_indexOf_7cf53 : MethodName := ⟨RJ0, "indexOf", "(II)I"⟩
abbrev cJ0_coder_7d493 : ByteArray := prog_16_method_152_code
def yJ0_coder_7d493 : MethodName := ⟨RJ0, "coder", "()B"⟩
abbrev cJ0_isLatin1_aae02 : ByteArray := prog_16_method_154_code
def yJ0_isLatin1_aae02 : MethodName := ⟨RJ0, "isLatin1", "()Z"⟩
abbrev cJ0_checkBoundsBeginEnd_23922 : ByteArray := prog_16_method_158_code
def yJ0_checkBoundsBeginEnd_23922 : MethodName := ⟨RJ0, "checkBoundsBeginEnd", "(III)V"⟩
def RJ1 : String := "java/lang/StringLatin1"
def TJ1 : u_T := fun k => match k with
  | _ => ("", "", "", false)
def tyJ1 : Nat → FieldType := fun k => match k with
  | _ => .int
abbrev wsJ10 : List Cond := u_ws RJ1 TJ1 0
theorem nmJ1 : ∀ a, a < 0 → ∀ b, b < 0 → a ≠ b → (TJ1 a).2.1 ≠ (TJ1 b).2.1 := by decide +kernel
theorem tyJ1_ok : ∀ k, k < 0 → parseFieldDescriptor (TJ1 k).2.2.1 = some (tyJ1 k) := by decide +kernel
abbrev cJ1_canEncode_9a6ad : ByteArray := prog_17_method_4_code
def yJ1_canEncode_9a6ad : MethodName := ⟨RJ1, "canEncode", "(I)Z"⟩
abbrev cJ1_indexOf_4cfef : ByteArray := prog_17_method_22_code
def yJ1_indexOf_4cfef : MethodName := ⟨RJ1, "indexOf", "([BIII)I"⟩
abbrev cJ1_indexOfChar_4cfef : ByteArray := prog_17_method_23_code
def yJ1_indexOfChar_4cfef : MethodName := ⟨RJ1, "indexOfChar", "([BIII)I"⟩
def RJ2 : String := "java/lang/StringUTF16"
def TJ2 : u_T := fun k => match k with
  | _ => ("", "", "", false)
def tyJ2 : Nat → FieldType := fun k => match k with
  | _ => .int
abbrev wsJ20 : List Cond := u_ws RJ2 TJ2 0
theorem nmJ2 : ∀ a, a < 0 → ∀ b, b < 0 → a ≠ b → (TJ2 a).2.1 ≠ (TJ2 b).2.1 := by decide +kernel
theorem tyJ2_ok : ∀ k, k < 0 → parseFieldDescriptor (TJ2 k).2.2.1 = some (tyJ2 k) := by decide +kernel
abbrev cJ2_getChar_3b067 : ByteArray := prog_18_method_5_code
def yJ2_getChar_3b067 : MethodName := ⟨RJ2, "getChar", "([BI)C"⟩
abbrev cJ2_length_9d52b : ByteArray := prog_18_method_6_code
def yJ2_length_9d52b : MethodName := ⟨RJ2, "length", "([B)I"⟩
abbrev cJ2_indexOf_4cfef : ByteArray := prog_18_method_40_code
def yJ2_indexOf_4cfef : MethodName := ⟨RJ2, "indexOf", "([BIII)I"⟩
abbrev cJ2_indexOfChar_4cfef : ByteArray := prog_18_method_47_code
def yJ2_indexOfChar_4cfef : MethodName := ⟨RJ2, "indexOfChar", "([BIII)I"⟩
abbrev cJ2_indexOfCharUnsafe_4cfef : ByteArray := prog_18_method_48_code
def yJ2_indexOfCharUnsafe_4cfef : MethodName := ⟨RJ2, "indexOfCharUnsafe", "([BIII)I"⟩
abbrev cJ2_indexOfSupplementary_4cfef : ByteArray := prog_18_method_49_code
def yJ2_indexOfSupplementary_4cfef : MethodName := ⟨RJ2, "indexOfSupplementary", "([BIII)I"⟩
abbrev cJ2_checkBoundsBeginEnd_d044e : ByteArray := prog_18_method_93_code
def yJ2_checkBoundsBeginEnd_d044e : MethodName := ⟨RJ2, "checkBoundsBeginEnd", "(II[B)V"⟩
def RJ10 : String := "java/lang/System"
def TJ10 : u_T := fun k => match k with
  | _ => ("", "", "", false)
def tyJ10 : Nat → FieldType := fun k => match k with
  | _ => .int
abbrev wsJ100 : List Cond := u_ws RJ10 TJ10 0
theorem nmJ10 : ∀ a, a < 0 → ∀ b, b < 0 → a ≠ b → (TJ10 a).2.1 ≠ (TJ10 b).2.1 := by decide +kernel
theorem tyJ10_ok : ∀ k, k < 0 → parseFieldDescriptor (TJ10 k).2.2.1 = some (tyJ10 k) := by decide +kernel
def RJxa1e45 : String := "java/util/AbstractCollection"
def TJxa1e45 : u_T := fun k => match k with
  | _ => ("", "", "", false)
def tyJxa1e45 : Nat → FieldType := fun k => match k with
  | _ => .int
abbrev wsJxa1e450 : List Cond := u_ws RJxa1e45 TJxa1e45 0
theorem nmJxa1e45 : ∀ a, a < 0 → ∀ b, b < 0 → a ≠ b → (TJxa1e45 a).2.1 ≠ (TJxa1e45 b).2.1 := by decide +kernel
theorem tyJxa1e45_ok : ∀ k, k < 0 → parseFieldDescriptor (TJxa1e45 k).2.2.1 = some (tyJxa1e45 k) := by decide +kernel
abbrev cJxa1e45_init_da8c8 : ByteArray := prog_20_method_1_code
def yJxa1e45_init_da8c8 : MethodName := ⟨RJxa1e45, "<init>", "()V"⟩
def RJxc12de : String := "java/util/AbstractList"
def TJxc12de : u_T := fun k => match k with
  | _ => ("", "", "", false)
def tyJxc12de : Nat → FieldType := fun k => match k with
  | _ => .int
abbrev wsJxc12de0 : List Cond := u_ws RJxc12de TJxc12de 0
theorem nmJxc12de : ∀ a, a < 0 → ∀ b, b < 0 → a ≠ b → (TJxc12de a).2.1 ≠ (TJxc12de b).2.1 := by decide +kernel
theorem tyJxc12de_ok : ∀ k, k < 0 → parseFieldDescriptor (TJxc12de k).2.2.1 = some (tyJxc12de k) := by decide +kernel
abbrev cJxc12de_init_da8c8 : ByteArray := prog_21_method_1_code
def yJxc12de_init_da8c8 : MethodName := ⟨RJxc12de, "<init>", "()V"⟩
def RJx4a65c : String := "java/util/ArrayList"
def TJx4a65c : u_T := fun k => match k with
  | 0 => ("java/util/AbstractList", "modCount", "I", false)
  | 1 => ("java/util/ArrayList", "elementData", "[Ljava/lang/Object;", false)
  | _ => ("java/util/ArrayList", "size", "I", false)
def tyJx4a65c : Nat → FieldType := fun k => match k with
  | 0 => .int
  | 1 => .array (.object "java/lang/Object")
  | _ => .int
abbrev wsJx4a65c0 : List Cond := u_ws RJx4a65c TJx4a65c 3
theorem nmJx4a65c : ∀ a, a < 3 → ∀ b, b < 3 → a ≠ b → (TJx4a65c a).2.1 ≠ (TJx4a65c b).2.1 := by decide +kernel
theorem tyJx4a65c_ok : ∀ k, k < 3 → parseFieldDescriptor (TJx4a65c k).2.2.1 = some (tyJx4a65c k) := by decide +kernel
abbrev cJx4a65c_init_da8c8 : ByteArray := prog_22_method_2_code
def yJx4a65c_init_da8c8 : MethodName := ⟨RJx4a65c, "<init>", "()V"⟩
abbrev cJx4a65c_grow_92f84 : ByteArray := prog_22_method_6_code
def yJx4a65c_grow_92f84 : MethodName := ⟨RJx4a65c, "grow", "(I)[Ljava/lang/Object;"⟩
abbrev cJx4a65c_grow_d5877 : ByteArray := prog_22_method_7_code
def yJx4a65c_grow_d5877 : MethodName := ⟨RJx4a65c, "grow", "()[Ljava/lang/Object;"⟩
abbrev cJx4a65c_size_8abf5 : ByteArray := prog_22_method_8_code
def yJx4a65c_size_8abf5 : MethodName := ⟨RJx4a65c, "size", "()I"⟩
abbrev cJx4a65c_elementData_915e3 : ByteArray := prog_22_method_18_code
def yJx4a65c_elementData_915e3 : MethodName := ⟨RJx4a65c, "elementData", "(I)Ljava/lang/Object;"⟩
abbrev cJx4a65c_get_915e3 : ByteArray := prog_22_method_20_code
def yJx4a65c_get_915e3 : MethodName := ⟨RJx4a65c, "get", "(I)Ljava/lang/Object;"⟩
abbrev cJx4a65c_add_72be8 : ByteArray := prog_22_method_24_code
def yJx4a65c_add_72be8 : MethodName := ⟨RJx4a65c, "add", "(Ljava/lang/Object;[Ljava/lang/Object;I)V"⟩
abbrev cJx4a65c_add_9ea2d : ByteArray := prog_22_method_25_code
def yJx4a65c_add_9ea2d : MethodName := ⟨RJx4a65c, "add", "(Ljava/lang/Object;)Z"⟩
def RJ7 : String := "java/util/Arrays"
def TJ7 : u_T := fun k => match k with
  | _ => ("", "", "", false)
def tyJ7 : Nat → FieldType := fun k => match k with
  | _ => .int
abbrev wsJ70 : List Cond := u_ws RJ7 TJ7 0
theorem nmJ7 : ∀ a, a < 0 → ∀ b, b < 0 → a ≠ b → (TJ7 a).2.1 ≠ (TJ7 b).2.1 := by decide +kernel
theorem tyJ7_ok : ∀ k, k < 0 → parseFieldDescriptor (TJ7 k).2.2.1 = some (tyJ7 k) := by decide +kernel
abbrev cJ7_copyOf_1904c : ByteArray := prog_23_method_119_code
def yJ7_copyOf_1904c : MethodName := ⟨RJ7, "copyOf", "([Ljava/lang/Object;I)[Ljava/lang/Object;"⟩
abbrev cJ7_copyOf_6403c : ByteArray := prog_23_method_120_code
def yJ7_copyOf_6403c : MethodName := ⟨RJ7, "copyOf", "([Ljava/lang/Object;ILjava/lang/Class;)[Ljava/lang/Object;"⟩
def RJx5ef63 : String := "java/util/Collection"
def TJx5ef63 : u_T := fun k => match k with
  | _ => ("", "", "", false)
def tyJx5ef63 : Nat → FieldType := fun k => match k with
  | _ => .int
abbrev wsJx5ef630 : List Cond := u_ws RJx5ef63 TJx5ef63 0
theorem nmJx5ef63 : ∀ a, a < 0 → ∀ b, b < 0 → a ≠ b → (TJx5ef63 a).2.1 ≠ (TJx5ef63 b).2.1 := by decide +kernel
theorem tyJx5ef63_ok : ∀ k, k < 0 → parseFieldDescriptor (TJx5ef63 k).2.2.1 = some (tyJx5ef63 k) := by decide +kernel
def RJxbd725 : String := "java/util/List"
def TJxbd725 : u_T := fun k => match k with
  | _ => ("", "", "", false)
def tyJxbd725 : Nat → FieldType := fun k => match k with
  | _ => .int
abbrev wsJxbd7250 : List Cond := u_ws RJxbd725 TJxbd725 0
theorem nmJxbd725 : ∀ a, a < 0 → ∀ b, b < 0 → a ≠ b → (TJxbd725 a).2.1 ≠ (TJxbd725 b).2.1 := by decide +kernel
theorem tyJxbd725_ok : ∀ k, k < 0 → parseFieldDescriptor (TJxbd725 k).2.2.1 = some (tyJxbd725 k) := by decide +kernel
def RJ15 : String := "java/util/Objects"
def TJ15 : u_T := fun k => match k with
  | _ => ("", "", "", false)
def tyJ15 : Nat → FieldType := fun k => match k with
  | _ => .int
abbrev wsJ150 : List Cond := u_ws RJ15 TJ15 0
theorem nmJ15 : ∀ a, a < 0 → ∀ b, b < 0 → a ≠ b → (TJ15 a).2.1 ≠ (TJ15 b).2.1 := by decide +kernel
theorem tyJ15_ok : ∀ k, k < 0 → parseFieldDescriptor (TJ15 k).2.2.1 = some (tyJ15 k) := by decide +kernel
abbrev cJ15_checkIndex_7cf53 : ByteArray := prog_26_method_17_code
def yJ15_checkIndex_7cf53 : MethodName := ⟨RJ15, "checkIndex", "(II)I"⟩
def RJxf0a74 : String := "java/util/RandomAccess"
def TJxf0a74 : u_T := fun k => match k with
  | _ => ("", "", "", false)
def tyJxf0a74 : Nat → FieldType := fun k => match k with
  | _ => .int
abbrev wsJxf0a740 : List Cond := u_ws RJxf0a74 TJxf0a74 0
theorem nmJxf0a74 : ∀ a, a < 0 → ∀ b, b < 0 → a ≠ b → (TJxf0a74 a).2.1 ≠ (TJxf0a74 b).2.1 := by decide +kernel
theorem tyJxf0a74_ok : ∀ k, k < 0 → parseFieldDescriptor (TJxf0a74 k).2.2.1 = some (tyJxf0a74 k) := by decide +kernel
def RJxa66e6 : String := "java/util/SequencedCollection"
def TJxa66e6 : u_T := fun k => match k with
  | _ => ("", "", "", false)
def tyJxa66e6 : Nat → FieldType := fun k => match k with
  | _ => .int
abbrev wsJxa66e60 : List Cond := u_ws RJxa66e6 TJxa66e6 0
theorem nmJxa66e6 : ∀ a, a < 0 → ∀ b, b < 0 → a ≠ b → (TJxa66e6 a).2.1 ≠ (TJxa66e6 b).2.1 := by decide +kernel
theorem tyJxa66e6_ok : ∀ k, k < 0 → parseFieldDescriptor (TJxa66e6 k).2.2.1 = some (tyJxa66e6 k) := by decide +kernel
def RJ8 : String := "jdk/internal/util/ArraysSupport"
def TJ8 : u_T := fun k => match k with
  | _ => ("", "", "", false)
def tyJ8 : Nat → FieldType := fun k => match k with
  | _ => .int
abbrev wsJ80 : List Cond := u_ws RJ8 TJ8 0
theorem nmJ8 : ∀ a, a < 0 → ∀ b, b < 0 → a ≠ b → (TJ8 a).2.1 ≠ (TJ8 b).2.1 := by decide +kernel
theorem tyJ8_ok : ∀ k, k < 0 → parseFieldDescriptor (TJ8 k).2.2.1 = some (tyJ8 k) := by decide +kernel
abbrev cJ8_newLength_cabcc : ByteArray := prog_29_method_27_code
def yJ8_newLength_cabcc : MethodName := ⟨RJ8, "newLength", "(III)I"⟩
abbrev cJ8_hugeLength_7cf53 : ByteArray := prog_29_method_28_code
def yJ8_hugeLength_7cf53 : MethodName := ⟨RJ8, "hugeLength", "(II)I"⟩
def RJ3 : String := "jdk/internal/util/Preconditions"
def TJ3 : u_T := fun k => match k with
  | _ => ("", "", "", false)
def tyJ3 : Nat → FieldType := fun k => match k with
  | _ => .int
abbrev wsJ30 : List Cond := u_ws RJ3 TJ3 0
theorem nmJ3 : ∀ a, a < 0 → ∀ b, b < 0 → a ≠ b → (TJ3 a).2.1 ≠ (TJ3 b).2.1 := by decide +kernel
theorem tyJ3_ok : ∀ k, k < 0 → parseFieldDescriptor (TJ3 k).2.2.1 = some (tyJ3 k) := by decide +kernel
abbrev cJ3_checkIndex_8e157 : ByteArray := prog_30_method_11_code
def yJ3_checkIndex_8e157 : MethodName := ⟨RJ3, "checkIndex", "(IILjava/util/function/BiFunction;)I"⟩
abbrev cJ3_checkFromToIndex_8c36e : ByteArray := prog_30_method_12_code
def yJ3_checkFromToIndex_8c36e : MethodName := ⟨RJ3, "checkFromToIndex", "(IIILjava/util/function/BiFunction;)I"⟩
def RL : String := "EvenGranaryLaw"
abbrev cL_law : ByteArray := code
def yL_law : MethodName := ⟨RL, "law", "([I)Z"⟩
abbrev vwCl : List vw_C := [(RJx4a65c, TJx4a65c, 3), (RX0, TX0, 4), (RX1, TX1, 2), (RX2, TX2, 4), (RX3, TX3, 5), (RX4, TX4, 8), (RX5, TX5, 2), (RX6, TX6, 10), (RX7, TX7, 5), (RX8, TX8, 34)]
end
section
theorem dX8_init_0 : decode cX8_init 0 = .ok (.aload_n 0, 1) := by decide +kernel
theorem dX8_init_1 : decode cX8_init 1 = .ok (.invokespecial 1, 3) := by decide +kernel
theorem dX8_init_4 : decode cX8_init 4 = .ok (.aload_n 0, 1) := by decide +kernel
theorem dX8_init_5 : decode cX8_init 5 = .ok (.bipush 60, 2) := by decide +kernel
theorem dX8_init_7 : decode cX8_init 7 = .ok (.newarray .byte, 2) := by decide +kernel
theorem dX8_init_9 : decode cX8_init 9 = .ok (.putfield 7, 3) := by decide +kernel
theorem dX8_init_12 : decode cX8_init 12 = .ok (.aload_n 0, 1) := by decide +kernel
theorem dX8_init_13 : decode cX8_init 13 = .ok (.bipush 8, 2) := by decide +kernel
theorem dX8_init_15 : decode cX8_init 15 = .ok (.newarray .int, 2) := by decide +kernel
theorem dX8_init_17 : decode cX8_init 17 = .ok (.putfield 13, 3) := by decide +kernel
theorem dX8_init_20 : decode cX8_init 20 = .ok (.aload_n 0, 1) := by decide +kernel
theorem dX8_init_21 : decode cX8_init 21 = .ok (.bipush 8, 2) := by decide +kernel
theorem dX8_init_23 : decode cX8_init 23 = .ok (.newarray .int, 2) := by decide +kernel
theorem dX8_init_25 : decode cX8_init 25 = .ok (.putfield 17, 3) := by decide +kernel
theorem dX8_init_28 : decode cX8_init 28 = .ok (.aload_n 0, 1) := by decide +kernel
theorem dX8_init_29 : decode cX8_init 29 = .ok (.bipush 8, 2) := by decide +kernel
theorem dX8_init_31 : decode cX8_init 31 = .ok (.newarray .int, 2) := by decide +kernel
theorem dX8_init_33 : decode cX8_init 33 = .ok (.putfield 20, 3) := by decide +kernel
theorem dX8_init_36 : decode cX8_init 36 = .ok (.aload_n 0, 1) := by decide +kernel
theorem dX8_init_37 : decode cX8_init 37 = .ok (.bipush 8, 2) := by decide +kernel
theorem dX8_init_39 : decode cX8_init 39 = .ok (.newarray .int, 2) := by decide +kernel
theorem dX8_init_41 : decode cX8_init 41 = .ok (.putfield 23, 3) := by decide +kernel
theorem dX8_init_44 : decode cX8_init 44 = .ok (.aload_n 0, 1) := by decide +kernel
theorem dX8_init_45 : decode cX8_init 45 = .ok (.bipush 8, 2) := by decide +kernel
theorem dX8_init_47 : decode cX8_init 47 = .ok (.newarray .int, 2) := by decide +kernel
theorem dX8_init_49 : decode cX8_init 49 = .ok (.putfield 26, 3) := by decide +kernel
theorem dX8_init_52 : decode cX8_init 52 = .ok (.aload_n 0, 1) := by decide +kernel
theorem dX8_init_53 : decode cX8_init 53 = .ok (.bipush 8, 2) := by decide +kernel
theorem dX8_init_55 : decode cX8_init 55 = .ok (.newarray .int, 2) := by decide +kernel
theorem dX8_init_57 : decode cX8_init 57 = .ok (.putfield 29, 3) := by decide +kernel
theorem dX8_init_60 : decode cX8_init 60 = .ok (.aload_n 0, 1) := by decide +kernel
theorem dX8_init_61 : decode cX8_init 61 = .ok (.bipush 12, 2) := by decide +kernel
theorem dX8_init_63 : decode cX8_init 63 = .ok (.newarray .int, 2) := by decide +kernel
theorem dX8_init_65 : decode cX8_init 65 = .ok (.putfield 32, 3) := by decide +kernel
theorem dX8_init_68 : decode cX8_init 68 = .ok (.aload_n 0, 1) := by decide +kernel
theorem dX8_init_69 : decode cX8_init 69 = .ok (.bipush 12, 2) := by decide +kernel
theorem dX8_init_71 : decode cX8_init 71 = .ok (.newarray .int, 2) := by decide +kernel
theorem dX8_init_73 : decode cX8_init 73 = .ok (.putfield 35, 3) := by decide +kernel
theorem dX8_init_76 : decode cX8_init 76 = .ok (.aload_n 0, 1) := by decide +kernel
theorem dX8_init_77 : decode cX8_init 77 = .ok (.bipush 12, 2) := by decide +kernel
theorem dX8_init_79 : decode cX8_init 79 = .ok (.newarray .int, 2) := by decide +kernel
theorem dX8_init_81 : decode cX8_init 81 = .ok (.putfield 38, 3) := by decide +kernel
theorem dX8_init_84 : decode cX8_init 84 = .ok (.aload_n 0, 1) := by decide +kernel
theorem dX8_init_85 : decode cX8_init 85 = .ok (.bipush 12, 2) := by decide +kernel
theorem dX8_init_87 : decode cX8_init 87 = .ok (.newarray .int, 2) := by decide +kernel
theorem dX8_init_89 : decode cX8_init 89 = .ok (.putfield 41, 3) := by decide +kernel
theorem dX8_init_92 : decode cX8_init 92 = .ok (.aload_n 0, 1) := by decide +kernel
theorem dX8_init_93 : decode cX8_init 93 = .ok (.bipush 12, 2) := by decide +kernel
theorem dX8_init_95 : decode cX8_init 95 = .ok (.newarray .int, 2) := by decide +kernel
theorem dX8_init_97 : decode cX8_init 97 = .ok (.putfield 44, 3) := by decide +kernel
theorem dX8_init_100 : decode cX8_init 100 = .ok (.aload_n 0, 1) := by decide +kernel
theorem dX8_init_101 : decode cX8_init 101 = .ok (.iconst 2, 1) := by decide +kernel
theorem dX8_init_102 : decode cX8_init 102 = .ok (.newarray .int, 2) := by decide +kernel
theorem dX8_init_104 : decode cX8_init 104 = .ok (.putfield 47, 3) := by decide +kernel
theorem dX8_init_107 : decode cX8_init 107 = .ok (.aload_n 0, 1) := by decide +kernel
theorem dX8_init_108 : decode cX8_init 108 = .ok (.iconst 2, 1) := by decide +kernel
theorem dX8_init_109 : decode cX8_init 109 = .ok (.newarray .long, 2) := by decide +kernel
theorem dX8_init_111 : decode cX8_init 111 = .ok (.putfield 50, 3) := by decide +kernel
theorem dX8_init_114 : decode cX8_init 114 = .ok (.aload_n 0, 1) := by decide +kernel
theorem dX8_init_115 : decode cX8_init 115 = .ok (.iconst 2, 1) := by decide +kernel
theorem dX8_init_116 : decode cX8_init 116 = .ok (.newarray .int, 2) := by decide +kernel
theorem dX8_init_118 : decode cX8_init 118 = .ok (.putfield 54, 3) := by decide +kernel
theorem dX8_init_121 : decode cX8_init 121 = .ok (.aload_n 0, 1) := by decide +kernel
theorem dX8_init_122 : decode cX8_init 122 = .ok (.bipush 120, 2) := by decide +kernel
theorem dX8_init_124 : decode cX8_init 124 = .ok (.newarray .int, 2) := by decide +kernel
theorem dX8_init_126 : decode cX8_init 126 = .ok (.putfield 57, 3) := by decide +kernel
theorem dX8_init_129 : decode cX8_init 129 = .ok (.aload_n 0, 1) := by decide +kernel
theorem dX8_init_130 : decode cX8_init 130 = .ok (.bipush 120, 2) := by decide +kernel
theorem dX8_init_132 : decode cX8_init 132 = .ok (.newarray .int, 2) := by decide +kernel
theorem dX8_init_134 : decode cX8_init 134 = .ok (.putfield 60, 3) := by decide +kernel
theorem dX8_init_137 : decode cX8_init 137 = .ok (.aload_n 0, 1) := by decide +kernel
theorem dX8_init_138 : decode cX8_init 138 = .ok (.bipush 120, 2) := by decide +kernel
theorem dX8_init_140 : decode cX8_init 140 = .ok (.newarray .int, 2) := by decide +kernel
theorem dX8_init_142 : decode cX8_init 142 = .ok (.putfield 63, 3) := by decide +kernel
theorem dX8_init_145 : decode cX8_init 145 = .ok (.aload_n 0, 1) := by decide +kernel
theorem dX8_init_146 : decode cX8_init 146 = .ok (.bipush 16, 2) := by decide +kernel
theorem dX8_init_148 : decode cX8_init 148 = .ok (.newarray .long, 2) := by decide +kernel
theorem dX8_init_150 : decode cX8_init 150 = .ok (.putfield 66, 3) := by decide +kernel
theorem dX8_init_153 : decode cX8_init 153 = .ok (.aload_n 0, 1) := by decide +kernel
theorem dX8_init_154 : decode cX8_init 154 = .ok (.bipush 16, 2) := by decide +kernel
theorem dX8_init_156 : decode cX8_init 156 = .ok (.newarray .int, 2) := by decide +kernel
theorem dX8_init_158 : decode cX8_init 158 = .ok (.putfield 69, 3) := by decide +kernel
theorem dX8_init_161 : decode cX8_init 161 = .ok (.aload_n 0, 1) := by decide +kernel
theorem dX8_init_162 : decode cX8_init 162 = .ok (.bipush 16, 2) := by decide +kernel
theorem dX8_init_164 : decode cX8_init 164 = .ok (.newarray .long, 2) := by decide +kernel
theorem dX8_init_166 : decode cX8_init 166 = .ok (.putfield 72, 3) := by decide +kernel
theorem dX8_init_169 : decode cX8_init 169 = .ok (.aload_n 0, 1) := by decide +kernel
theorem dX8_init_170 : decode cX8_init 170 = .ok (.bipush 16, 2) := by decide +kernel
theorem dX8_init_172 : decode cX8_init 172 = .ok (.newarray .long, 2) := by decide +kernel
theorem dX8_init_174 : decode cX8_init 174 = .ok (.putfield 75, 3) := by decide +kernel
theorem dX8_init_177 : decode cX8_init 177 = .ok (.aload_n 0, 1) := by decide +kernel
theorem dX8_init_178 : decode cX8_init 178 = .ok (.bipush 16, 2) := by decide +kernel
theorem dX8_init_180 : decode cX8_init 180 = .ok (.newarray .long, 2) := by decide +kernel
theorem dX8_init_182 : decode cX8_init 182 = .ok (.putfield 78, 3) := by decide +kernel
theorem dX8_init_185 : decode cX8_init 185 = .ok (.aload_n 0, 1) := by decide +kernel
theorem dX8_init_186 : decode cX8_init 186 = .ok (.bipush 16, 2) := by decide +kernel
theorem dX8_init_188 : decode cX8_init 188 = .ok (.newarray .long, 2) := by decide +kernel
theorem dX8_init_190 : decode cX8_init 190 = .ok (.putfield 81, 3) := by decide +kernel
theorem dX8_init_193 : decode cX8_init 193 = .ok (.aload_n 0, 1) := by decide +kernel
theorem dX8_init_194 : decode cX8_init 194 = .ok (.bipush 16, 2) := by decide +kernel
theorem dX8_init_196 : decode cX8_init 196 = .ok (.newarray .long, 2) := by decide +kernel
theorem dX8_init_198 : decode cX8_init 198 = .ok (.putfield 84, 3) := by decide +kernel
theorem dX8_init_201 : decode cX8_init 201 = .ok (.aload_n 0, 1) := by decide +kernel
theorem dX8_init_202 : decode cX8_init 202 = .ok (.bipush 16, 2) := by decide +kernel
theorem dX8_init_204 : decode cX8_init 204 = .ok (.newarray .long, 2) := by decide +kernel
theorem dX8_init_206 : decode cX8_init 206 = .ok (.putfield 87, 3) := by decide +kernel
theorem dX8_init_209 : decode cX8_init 209 = .ok (.aload_n 0, 1) := by decide +kernel
theorem dX8_init_210 : decode cX8_init 210 = .ok (.bipush 16, 2) := by decide +kernel
theorem dX8_init_212 : decode cX8_init 212 = .ok (.newarray .long, 2) := by decide +kernel
theorem dX8_init_214 : decode cX8_init 214 = .ok (.putfield 90, 3) := by decide +kernel
theorem dX8_init_217 : decode cX8_init 217 = .ok (.aload_n 0, 1) := by decide +kernel
theorem dX8_init_218 : decode cX8_init 218 = .ok (.sipush 640, 3) := by decide +kernel
theorem dX8_init_221 : decode cX8_init 221 = .ok (.newarray .int, 2) := by decide +kernel
theorem dX8_init_223 : decode cX8_init 223 = .ok (.putfield 93, 3) := by decide +kernel
theorem dX8_init_226 : decode cX8_init 226 = .ok (.aload_n 0, 1) := by decide +kernel
theorem dX8_init_227 : decode cX8_init 227 = .ok (.sipush 640, 3) := by decide +kernel
theorem dX8_init_230 : decode cX8_init 230 = .ok (.newarray .int, 2) := by decide +kernel
theorem dX8_init_232 : decode cX8_init 232 = .ok (.putfield 96, 3) := by decide +kernel
theorem dX8_init_235 : decode cX8_init 235 = .ok (.aload_n 0, 1) := by decide +kernel
theorem dX8_init_236 : decode cX8_init 236 = .ok (.sipush 640, 3) := by decide +kernel
theorem dX8_init_239 : decode cX8_init 239 = .ok (.newarray .int, 2) := by decide +kernel
theorem dX8_init_241 : decode cX8_init 241 = .ok (.putfield 99, 3) := by decide +kernel
theorem dX8_init_244 : decode cX8_init 244 = .ok (.aload_n 0, 1) := by decide +kernel
theorem dX8_init_245 : decode cX8_init 245 = .ok (.sipush 640, 3) := by decide +kernel
theorem dX8_init_248 : decode cX8_init 248 = .ok (.newarray .boolean, 2) := by decide +kernel
theorem dX8_init_250 : decode cX8_init 250 = .ok (.putfield 102, 3) := by decide +kernel
theorem dX8_init_253 : decode cX8_init 253 = .ok (.aload_n 0, 1) := by decide +kernel
theorem dX8_init_254 : decode cX8_init 254 = .ok (.getfield 13, 3) := by decide +kernel
theorem dX8_init_257 : decode cX8_init 257 = .ok (.invokestatic 106, 3) := by decide +kernel
theorem dX8_init_260 : decode cX8_init 260 = .ok (.aload_n 0, 1) := by decide +kernel
theorem dX8_init_261 : decode cX8_init 261 = .ok (.getfield 17, 3) := by decide +kernel
theorem dX8_init_264 : decode cX8_init 264 = .ok (.invokestatic 106, 3) := by decide +kernel
theorem dX8_init_267 : decode cX8_init 267 = .ok (.return_, 1) := by decide +kernel
theorem dX8_lies_0 : decode cX8_lies 0 = .ok (.lload_n 0, 1) := by decide +kernel
theorem dX8_lies_1 : decode cX8_lies 1 = .ok (.lload_n 2, 1) := by decide +kernel
theorem dX8_lies_2 : decode cX8_lies 2 = .ok (.lcmp, 1) := by decide +kernel
theorem dX8_lies_3 : decode cX8_lies 3 = .ok (.ifCond .lt 14, 3) := by decide +kernel
theorem dX8_lies_6 : decode cX8_lies 6 = .ok (.lload_n 0, 1) := by decide +kernel
theorem dX8_lies_7 : decode cX8_lies 7 = .ok (.lload 4, 2) := by decide +kernel
theorem dX8_lies_9 : decode cX8_lies 9 = .ok (.lcmp, 1) := by decide +kernel
theorem dX8_lies_10 : decode cX8_lies 10 = .ok (.ifCond .gt 7, 3) := by decide +kernel
theorem dX8_lies_13 : decode cX8_lies 13 = .ok (.iconst 1, 1) := by decide +kernel
theorem dX8_lies_14 : decode cX8_lies 14 = .ok (.goto 4, 3) := by decide +kernel
theorem dX8_lies_17 : decode cX8_lies 17 = .ok (.iconst 0, 1) := by decide +kernel
theorem dX8_lies_18 : decode cX8_lies 18 = .ok (.ireturn, 1) := by decide +kernel
theorem dX8_push_0 : decode cX8_push 0 = .ok (.bipush 24, 2) := by decide +kernel
theorem dX8_push_2 : decode cX8_push 2 = .ok (.istore_n 2, 1) := by decide +kernel
theorem dX8_push_3 : decode cX8_push 3 = .ok (.iload_n 2, 1) := by decide +kernel
theorem dX8_push_4 : decode cX8_push 4 = .ok (.ifCond .lt 32, 3) := by decide +kernel
theorem dX8_push_7 : decode cX8_push 7 = .ok (.aload_n 0, 1) := by decide +kernel
theorem dX8_push_8 : decode cX8_push 8 = .ok (.getfield 7, 3) := by decide +kernel
theorem dX8_push_11 : decode cX8_push 11 = .ok (.aload_n 0, 1) := by decide +kernel
theorem dX8_push_12 : decode cX8_push 12 = .ok (.getfield 110, 3) := by decide +kernel
theorem dX8_push_15 : decode cX8_push 15 = .ok (.iload_n 1, 1) := by decide +kernel
theorem dX8_push_16 : decode cX8_push 16 = .ok (.iload_n 2, 1) := by decide +kernel
theorem dX8_push_17 : decode cX8_push 17 = .ok (.ishr, 1) := by decide +kernel
theorem dX8_push_18 : decode cX8_push 18 = .ok (.i2b, 1) := by decide +kernel
theorem dX8_push_19 : decode cX8_push 19 = .ok (.bastore, 1) := by decide +kernel
theorem dX8_push_20 : decode cX8_push 20 = .ok (.aload_n 0, 1) := by decide +kernel
theorem dX8_push_21 : decode cX8_push 21 = .ok (.dup, 1) := by decide +kernel
theorem dX8_push_22 : decode cX8_push 22 = .ok (.getfield 110, 3) := by decide +kernel
theorem dX8_push_25 : decode cX8_push 25 = .ok (.iconst 1, 1) := by decide +kernel
theorem dX8_push_26 : decode cX8_push 26 = .ok (.iadd, 1) := by decide +kernel
theorem dX8_push_27 : decode cX8_push 27 = .ok (.putfield 110, 3) := by decide +kernel
theorem dX8_push_30 : decode cX8_push 30 = .ok (.iinc 2 (-8), 3) := by decide +kernel
theorem dX8_push_33 : decode cX8_push 33 = .ok (.goto (-30), 3) := by decide +kernel
theorem dX8_push_36 : decode cX8_push 36 = .ok (.return_, 1) := by decide +kernel
theorem dX8_feed_0 : decode cX8_feed 0 = .ok (.aload_n 0, 1) := by decide +kernel
theorem dX8_feed_1 : decode cX8_feed 1 = .ok (.getfield 110, 3) := by decide +kernel
theorem dX8_feed_4 : decode cX8_feed 4 = .ok (.bipush 20, 2) := by decide +kernel
theorem dX8_feed_6 : decode cX8_feed 6 = .ok (.iadd, 1) := by decide +kernel
theorem dX8_feed_7 : decode cX8_feed 7 = .ok (.bipush 60, 2) := by decide +kernel
theorem dX8_feed_9 : decode cX8_feed 9 = .ok (.if_icmp .le 5, 3) := by decide +kernel
theorem dX8_feed_12 : decode cX8_feed 12 = .ok (.iconst (-1), 1) := by decide +kernel
theorem dX8_feed_13 : decode cX8_feed 13 = .ok (.ireturn, 1) := by decide +kernel
theorem dX8_feed_14 : decode cX8_feed 14 = .ok (.aload_n 0, 1) := by decide +kernel
theorem dX8_feed_15 : decode cX8_feed 15 = .ok (.iload_n 1, 1) := by decide +kernel
theorem dX8_feed_16 : decode cX8_feed 16 = .ok (.invokevirtual 114, 3) := by decide +kernel
theorem dX8_feed_19 : decode cX8_feed 19 = .ok (.aload_n 0, 1) := by decide +kernel
theorem dX8_feed_20 : decode cX8_feed 20 = .ok (.iload_n 2, 1) := by decide +kernel
theorem dX8_feed_21 : decode cX8_feed 21 = .ok (.invokevirtual 114, 3) := by decide +kernel
theorem dX8_feed_24 : decode cX8_feed 24 = .ok (.aload_n 0, 1) := by decide +kernel
theorem dX8_feed_25 : decode cX8_feed 25 = .ok (.iload_n 3, 1) := by decide +kernel
theorem dX8_feed_26 : decode cX8_feed 26 = .ok (.invokevirtual 114, 3) := by decide +kernel
theorem dX8_feed_29 : decode cX8_feed 29 = .ok (.aload_n 0, 1) := by decide +kernel
theorem dX8_feed_30 : decode cX8_feed 30 = .ok (.iload 4, 2) := by decide +kernel
theorem dX8_feed_32 : decode cX8_feed 32 = .ok (.invokevirtual 114, 3) := by decide +kernel
theorem dX8_feed_35 : decode cX8_feed 35 = .ok (.aload_n 0, 1) := by decide +kernel
theorem dX8_feed_36 : decode cX8_feed 36 = .ok (.iload 5, 2) := by decide +kernel
theorem dX8_feed_38 : decode cX8_feed 38 = .ok (.invokevirtual 114, 3) := by decide +kernel
theorem dX8_feed_41 : decode cX8_feed 41 = .ok (.aload_n 0, 1) := by decide +kernel
theorem dX8_feed_42 : decode cX8_feed 42 = .ok (.getfield 110, 3) := by decide +kernel
theorem dX8_feed_45 : decode cX8_feed 45 = .ok (.ireturn, 1) := by decide +kernel
theorem dX8_asAtFirst_0 : decode cX8_asAtFirst 0 = .ok (.aload_n 0, 1) := by decide +kernel
theorem dX8_asAtFirst_1 : decode cX8_asAtFirst 1 = .ok (.iconst 0, 1) := by decide +kernel
theorem dX8_asAtFirst_2 : decode cX8_asAtFirst 2 = .ok (.bipush 100, 2) := by decide +kernel
theorem dX8_asAtFirst_4 : decode cX8_asAtFirst 4 = .ok (.iastore, 1) := by decide +kernel
theorem dX8_asAtFirst_5 : decode cX8_asAtFirst 5 = .ok (.aload_n 0, 1) := by decide +kernel
theorem dX8_asAtFirst_6 : decode cX8_asAtFirst 6 = .ok (.iconst 1, 1) := by decide +kernel
theorem dX8_asAtFirst_7 : decode cX8_asAtFirst 7 = .ok (.bipush 100, 2) := by decide +kernel
theorem dX8_asAtFirst_9 : decode cX8_asAtFirst 9 = .ok (.iastore, 1) := by decide +kernel
theorem dX8_asAtFirst_10 : decode cX8_asAtFirst 10 = .ok (.aload_n 0, 1) := by decide +kernel
theorem dX8_asAtFirst_11 : decode cX8_asAtFirst 11 = .ok (.iconst 2, 1) := by decide +kernel
theorem dX8_asAtFirst_12 : decode cX8_asAtFirst 12 = .ok (.sipush 400, 3) := by decide +kernel
theorem dX8_asAtFirst_15 : decode cX8_asAtFirst 15 = .ok (.iastore, 1) := by decide +kernel
theorem dX8_asAtFirst_16 : decode cX8_asAtFirst 16 = .ok (.aload_n 0, 1) := by decide +kernel
theorem dX8_asAtFirst_17 : decode cX8_asAtFirst 17 = .ok (.iconst 3, 1) := by decide +kernel
theorem dX8_asAtFirst_18 : decode cX8_asAtFirst 18 = .ok (.sipush 200, 3) := by decide +kernel
theorem dX8_asAtFirst_21 : decode cX8_asAtFirst 21 = .ok (.iastore, 1) := by decide +kernel
theorem dX8_asAtFirst_22 : decode cX8_asAtFirst 22 = .ok (.aload_n 0, 1) := by decide +kernel
theorem dX8_asAtFirst_23 : decode cX8_asAtFirst 23 = .ok (.iconst 4, 1) := by decide +kernel
theorem dX8_asAtFirst_24 : decode cX8_asAtFirst 24 = .ok (.bipush 110, 2) := by decide +kernel
theorem dX8_asAtFirst_26 : decode cX8_asAtFirst 26 = .ok (.iastore, 1) := by decide +kernel
theorem dX8_asAtFirst_27 : decode cX8_asAtFirst 27 = .ok (.aload_n 0, 1) := by decide +kernel
theorem dX8_asAtFirst_28 : decode cX8_asAtFirst 28 = .ok (.iconst 5, 1) := by decide +kernel
theorem dX8_asAtFirst_29 : decode cX8_asAtFirst 29 = .ok (.bipush 24, 2) := by decide +kernel
theorem dX8_asAtFirst_31 : decode cX8_asAtFirst 31 = .ok (.iastore, 1) := by decide +kernel
theorem dX8_asAtFirst_32 : decode cX8_asAtFirst 32 = .ok (.aload_n 0, 1) := by decide +kernel
theorem dX8_asAtFirst_33 : decode cX8_asAtFirst 33 = .ok (.bipush 6, 2) := by decide +kernel
theorem dX8_asAtFirst_35 : decode cX8_asAtFirst 35 = .ok (.iconst 5, 1) := by decide +kernel
theorem dX8_asAtFirst_36 : decode cX8_asAtFirst 36 = .ok (.iastore, 1) := by decide +kernel
theorem dX8_asAtFirst_37 : decode cX8_asAtFirst 37 = .ok (.aload_n 0, 1) := by decide +kernel
theorem dX8_asAtFirst_38 : decode cX8_asAtFirst 38 = .ok (.bipush 7, 2) := by decide +kernel
theorem dX8_asAtFirst_40 : decode cX8_asAtFirst 40 = .ok (.iconst 3, 1) := by decide +kernel
theorem dX8_asAtFirst_41 : decode cX8_asAtFirst 41 = .ok (.iastore, 1) := by decide +kernel
theorem dX8_asAtFirst_42 : decode cX8_asAtFirst 42 = .ok (.return_, 1) := by decide +kernel
theorem dX8_letter_0 : decode cX8_letter 0 = .ok (.iload_n 0, 1) := by decide +kernel
theorem dX8_letter_1 : decode cX8_letter 1 = .ok (.tableswitch 109 97 115 #[101, 91, 109, 109, 109, 109, 109, 109, 109, 109, 109, 99, 97, 93, 106, 103, 109, 109, 95], 91) := by decide +kernel
theorem dX8_letter_92 : decode cX8_letter 92 = .ok (.iconst 0, 1) := by decide +kernel
theorem dX8_letter_93 : decode cX8_letter 93 = .ok (.ireturn, 1) := by decide +kernel
theorem dX8_letter_94 : decode cX8_letter 94 = .ok (.iconst 1, 1) := by decide +kernel
theorem dX8_letter_95 : decode cX8_letter 95 = .ok (.ireturn, 1) := by decide +kernel
theorem dX8_letter_96 : decode cX8_letter 96 = .ok (.iconst 2, 1) := by decide +kernel
theorem dX8_letter_97 : decode cX8_letter 97 = .ok (.ireturn, 1) := by decide +kernel
theorem dX8_letter_98 : decode cX8_letter 98 = .ok (.iconst 3, 1) := by decide +kernel
theorem dX8_letter_99 : decode cX8_letter 99 = .ok (.ireturn, 1) := by decide +kernel
theorem dX8_letter_100 : decode cX8_letter 100 = .ok (.iconst 4, 1) := by decide +kernel
theorem dX8_letter_101 : decode cX8_letter 101 = .ok (.ireturn, 1) := by decide +kernel
theorem dX8_letter_102 : decode cX8_letter 102 = .ok (.iconst 5, 1) := by decide +kernel
theorem dX8_letter_103 : decode cX8_letter 103 = .ok (.ireturn, 1) := by decide +kernel
theorem dX8_letter_104 : decode cX8_letter 104 = .ok (.bipush 6, 2) := by decide +kernel
theorem dX8_letter_106 : decode cX8_letter 106 = .ok (.ireturn, 1) := by decide +kernel
theorem dX8_letter_107 : decode cX8_letter 107 = .ok (.bipush 7, 2) := by decide +kernel
theorem dX8_letter_109 : decode cX8_letter 109 = .ok (.ireturn, 1) := by decide +kernel
theorem dX8_letter_110 : decode cX8_letter 110 = .ok (.iconst (-1), 1) := by decide +kernel
theorem dX8_letter_111 : decode cX8_letter 111 = .ok (.ireturn, 1) := by decide +kernel
theorem dX8_canBe_0 : decode cX8_canBe 0 = .ok (.iload_n 0, 1) := by decide +kernel
theorem dX8_canBe_1 : decode cX8_canBe 1 = .ok (.iconst 4, 1) := by decide +kernel
theorem dX8_canBe_2 : decode cX8_canBe 2 = .ok (.if_icmp .ne 17, 3) := by decide +kernel
theorem dX8_canBe_5 : decode cX8_canBe 5 = .ok (.iload_n 1, 1) := by decide +kernel
theorem dX8_canBe_6 : decode cX8_canBe 6 = .ok (.bipush 100, 2) := by decide +kernel
theorem dX8_canBe_8 : decode cX8_canBe 8 = .ok (.if_icmp .lt 7, 3) := by decide +kernel
theorem dX8_canBe_11 : decode cX8_canBe 11 = .ok (.iconst 1, 1) := by decide +kernel
theorem dX8_canBe_12 : decode cX8_canBe 12 = .ok (.goto 41, 3) := by decide +kernel
theorem dX8_canBe_15 : decode cX8_canBe 15 = .ok (.iconst 0, 1) := by decide +kernel
theorem dX8_canBe_16 : decode cX8_canBe 16 = .ok (.goto 37, 3) := by decide +kernel
theorem dX8_canBe_19 : decode cX8_canBe 19 = .ok (.iload_n 0, 1) := by decide +kernel
theorem dX8_canBe_20 : decode cX8_canBe 20 = .ok (.iconst 5, 1) := by decide +kernel
theorem dX8_canBe_21 : decode cX8_canBe 21 = .ok (.if_icmp .ne 15, 3) := by decide +kernel
theorem dX8_canBe_24 : decode cX8_canBe 24 = .ok (.iload_n 1, 1) := by decide +kernel
theorem dX8_canBe_25 : decode cX8_canBe 25 = .ok (.i2l, 1) := by decide +kernel
theorem dX8_canBe_26 : decode cX8_canBe 26 = .ok (.lconst 1, 1) := by decide +kernel
theorem dX8_canBe_27 : decode cX8_canBe 27 = .ok (.ldc2_w 118, 3) := by decide +kernel
theorem dX8_canBe_30 : decode cX8_canBe 30 = .ok (.invokestatic 120, 3) := by decide +kernel
theorem dX8_canBe_33 : decode cX8_canBe 33 = .ok (.goto 20, 3) := by decide +kernel
theorem dX8_canBe_36 : decode cX8_canBe 36 = .ok (.iload_n 0, 1) := by decide +kernel
theorem dX8_canBe_37 : decode cX8_canBe 37 = .ok (.bipush 6, 2) := by decide +kernel
theorem dX8_canBe_39 : decode cX8_canBe 39 = .ok (.if_icmp .ne 9, 3) := by decide +kernel
theorem dX8_canBe_42 : decode cX8_canBe 42 = .ok (.iload_n 1, 1) := by decide +kernel
theorem dX8_canBe_43 : decode cX8_canBe 43 = .ok (.bipush 100, 2) := by decide +kernel
theorem dX8_canBe_45 : decode cX8_canBe 45 = .ok (.if_icmp .gt 7, 3) := by decide +kernel
theorem dX8_canBe_48 : decode cX8_canBe 48 = .ok (.iconst 1, 1) := by decide +kernel
theorem dX8_canBe_49 : decode cX8_canBe 49 = .ok (.goto 4, 3) := by decide +kernel
theorem dX8_canBe_52 : decode cX8_canBe 52 = .ok (.iconst 0, 1) := by decide +kernel
theorem dX8_canBe_53 : decode cX8_canBe 53 = .ok (.ireturn, 1) := by decide +kernel
theorem dX8_at_0 : decode cX8_at 0 = .ok (.iload_n 1, 1) := by decide +kernel
theorem dX8_at_1 : decode cX8_at 1 = .ok (.iload_n 2, 1) := by decide +kernel
theorem dX8_at_2 : decode cX8_at 2 = .ok (.if_icmp .ge 16, 3) := by decide +kernel
theorem dX8_at_5 : decode cX8_at 5 = .ok (.aload_n 0, 1) := by decide +kernel
theorem dX8_at_6 : decode cX8_at 6 = .ok (.getfield 7, 3) := by decide +kernel
theorem dX8_at_9 : decode cX8_at 9 = .ok (.iload_n 1, 1) := by decide +kernel
theorem dX8_at_10 : decode cX8_at 10 = .ok (.baload, 1) := by decide +kernel
theorem dX8_at_11 : decode cX8_at 11 = .ok (.sipush 255, 3) := by decide +kernel
theorem dX8_at_14 : decode cX8_at 14 = .ok (.iand, 1) := by decide +kernel
theorem dX8_at_15 : decode cX8_at 15 = .ok (.goto 4, 3) := by decide +kernel
theorem dX8_at_18 : decode cX8_at 18 = .ok (.iconst 0, 1) := by decide +kernel
theorem dX8_at_19 : decode cX8_at 19 = .ok (.ireturn, 1) := by decide +kernel
theorem dX8_reads_0 : decode cX8_reads 0 = .ok (.aload_n 0, 1) := by decide +kernel
theorem dX8_reads_1 : decode cX8_reads 1 = .ok (.getfield 20, 3) := by decide +kernel
theorem dX8_reads_4 : decode cX8_reads 4 = .ok (.invokestatic 106, 3) := by decide +kernel
theorem dX8_reads_7 : decode cX8_reads 7 = .ok (.iconst 0, 1) := by decide +kernel
theorem dX8_reads_8 : decode cX8_reads 8 = .ok (.istore_n 2, 1) := by decide +kernel
theorem dX8_reads_9 : decode cX8_reads 9 = .ok (.iconst 0, 1) := by decide +kernel
theorem dX8_reads_10 : decode cX8_reads 10 = .ok (.istore_n 3, 1) := by decide +kernel
theorem dX8_reads_11 : decode cX8_reads 11 = .ok (.iload_n 3, 1) := by decide +kernel
theorem dX8_reads_12 : decode cX8_reads 12 = .ok (.iload_n 1, 1) := by decide +kernel
theorem dX8_reads_13 : decode cX8_reads 13 = .ok (.if_icmp .gt 174, 3) := by decide +kernel
theorem dX8_reads_16 : decode cX8_reads 16 = .ok (.aload_n 0, 1) := by decide +kernel
theorem dX8_reads_17 : decode cX8_reads 17 = .ok (.iload_n 2, 1) := by decide +kernel
theorem dX8_reads_18 : decode cX8_reads 18 = .ok (.iload_n 1, 1) := by decide +kernel
theorem dX8_reads_19 : decode cX8_reads 19 = .ok (.invokevirtual 124, 3) := by decide +kernel
theorem dX8_reads_22 : decode cX8_reads 22 = .ok (.invokestatic 128, 3) := by decide +kernel
theorem dX8_reads_25 : decode cX8_reads 25 = .ok (.istore 4, 2) := by decide +kernel
theorem dX8_reads_27 : decode cX8_reads 27 = .ok (.iload 4, 2) := by decide +kernel
theorem dX8_reads_29 : decode cX8_reads 29 = .ok (.iconst (-1), 1) := by decide +kernel
theorem dX8_reads_30 : decode cX8_reads 30 = .ok (.if_icmp .ne 8, 3) := by decide +kernel
theorem dX8_reads_33 : decode cX8_reads 33 = .ok (.bipush 100, 2) := by decide +kernel
theorem dX8_reads_35 : decode cX8_reads 35 = .ok (.iload_n 2, 1) := by decide +kernel
theorem dX8_reads_36 : decode cX8_reads 36 = .ok (.iadd, 1) := by decide +kernel
theorem dX8_reads_37 : decode cX8_reads 37 = .ok (.ireturn, 1) := by decide +kernel
theorem dX8_reads_38 : decode cX8_reads 38 = .ok (.iinc 2 1, 3) := by decide +kernel
theorem dX8_reads_41 : decode cX8_reads 41 = .ok (.aload_n 0, 1) := by decide +kernel
theorem dX8_reads_42 : decode cX8_reads 42 = .ok (.iload_n 2, 1) := by decide +kernel
theorem dX8_reads_43 : decode cX8_reads 43 = .ok (.iload_n 1, 1) := by decide +kernel
theorem dX8_reads_44 : decode cX8_reads 44 = .ok (.invokevirtual 124, 3) := by decide +kernel
theorem dX8_reads_47 : decode cX8_reads 47 = .ok (.i2l, 1) := by decide +kernel
theorem dX8_reads_48 : decode cX8_reads 48 = .ok (.ldc2_w 132, 3) := by decide +kernel
theorem dX8_reads_51 : decode cX8_reads 51 = .ok (.ldc2_w 134, 3) := by decide +kernel
theorem dX8_reads_54 : decode cX8_reads 54 = .ok (.invokestatic 120, 3) := by decide +kernel
theorem dX8_reads_57 : decode cX8_reads 57 = .ok (.ifCond .ne 9, 3) := by decide +kernel
theorem dX8_reads_60 : decode cX8_reads 60 = .ok (.sipush 200, 3) := by decide +kernel
theorem dX8_reads_63 : decode cX8_reads 63 = .ok (.iload_n 2, 1) := by decide +kernel
theorem dX8_reads_64 : decode cX8_reads 64 = .ok (.iadd, 1) := by decide +kernel
theorem dX8_reads_65 : decode cX8_reads 65 = .ok (.ireturn, 1) := by decide +kernel
theorem dX8_reads_66 : decode cX8_reads 66 = .ok (.iload_n 2, 1) := by decide +kernel
theorem dX8_reads_67 : decode cX8_reads 67 = .ok (.istore 5, 2) := by decide +kernel
theorem dX8_reads_69 : decode cX8_reads 69 = .ok (.iconst 0, 1) := by decide +kernel
theorem dX8_reads_70 : decode cX8_reads 70 = .ok (.istore 6, 2) := by decide +kernel
theorem dX8_reads_72 : decode cX8_reads 72 = .ok (.aload_n 0, 1) := by decide +kernel
theorem dX8_reads_73 : decode cX8_reads 73 = .ok (.iload_n 2, 1) := by decide +kernel
theorem dX8_reads_74 : decode cX8_reads 74 = .ok (.iload_n 1, 1) := by decide +kernel
theorem dX8_reads_75 : decode cX8_reads 75 = .ok (.invokevirtual 124, 3) := by decide +kernel
theorem dX8_reads_78 : decode cX8_reads 78 = .ok (.i2l, 1) := by decide +kernel
theorem dX8_reads_79 : decode cX8_reads 79 = .ok (.ldc2_w 132, 3) := by decide +kernel
theorem dX8_reads_82 : decode cX8_reads 82 = .ok (.ldc2_w 134, 3) := by decide +kernel
theorem dX8_reads_85 : decode cX8_reads 85 = .ok (.invokestatic 120, 3) := by decide +kernel
theorem dX8_reads_88 : decode cX8_reads 88 = .ok (.ifCond .eq 40, 3) := by decide +kernel
theorem dX8_reads_91 : decode cX8_reads 91 = .ok (.iload_n 2, 1) := by decide +kernel
theorem dX8_reads_92 : decode cX8_reads 92 = .ok (.iload 5, 2) := by decide +kernel
theorem dX8_reads_94 : decode cX8_reads 94 = .ok (.iconst 4, 1) := by decide +kernel
theorem dX8_reads_95 : decode cX8_reads 95 = .ok (.iadd, 1) := by decide +kernel
theorem dX8_reads_96 : decode cX8_reads 96 = .ok (.if_icmp .ne 9, 3) := by decide +kernel
theorem dX8_reads_99 : decode cX8_reads 99 = .ok (.sipush 300, 3) := by decide +kernel
theorem dX8_reads_102 : decode cX8_reads 102 = .ok (.iload_n 2, 1) := by decide +kernel
theorem dX8_reads_103 : decode cX8_reads 103 = .ok (.iadd, 1) := by decide +kernel
theorem dX8_reads_104 : decode cX8_reads 104 = .ok (.ireturn, 1) := by decide +kernel
theorem dX8_reads_105 : decode cX8_reads 105 = .ok (.bipush 10, 2) := by decide +kernel
theorem dX8_reads_107 : decode cX8_reads 107 = .ok (.iload 6, 2) := by decide +kernel
theorem dX8_reads_109 : decode cX8_reads 109 = .ok (.imul, 1) := by decide +kernel
theorem dX8_reads_110 : decode cX8_reads 110 = .ok (.aload_n 0, 1) := by decide +kernel
theorem dX8_reads_111 : decode cX8_reads 111 = .ok (.iload_n 2, 1) := by decide +kernel
theorem dX8_reads_112 : decode cX8_reads 112 = .ok (.iload_n 1, 1) := by decide +kernel
theorem dX8_reads_113 : decode cX8_reads 113 = .ok (.invokevirtual 124, 3) := by decide +kernel
theorem dX8_reads_116 : decode cX8_reads 116 = .ok (.iadd, 1) := by decide +kernel
theorem dX8_reads_117 : decode cX8_reads 117 = .ok (.bipush 48, 2) := by decide +kernel
theorem dX8_reads_119 : decode cX8_reads 119 = .ok (.isub, 1) := by decide +kernel
theorem dX8_reads_120 : decode cX8_reads 120 = .ok (.istore 6, 2) := by decide +kernel
theorem dX8_reads_122 : decode cX8_reads 122 = .ok (.iinc 2 1, 3) := by decide +kernel
theorem dX8_reads_125 : decode cX8_reads 125 = .ok (.goto (-53), 3) := by decide +kernel
theorem dX8_reads_128 : decode cX8_reads 128 = .ok (.iload 4, 2) := by decide +kernel
theorem dX8_reads_130 : decode cX8_reads 130 = .ok (.iload 6, 2) := by decide +kernel
theorem dX8_reads_132 : decode cX8_reads 132 = .ok (.invokestatic 136, 3) := by decide +kernel
theorem dX8_reads_135 : decode cX8_reads 135 = .ok (.ifCond .ne 10, 3) := by decide +kernel
theorem dX8_reads_138 : decode cX8_reads 138 = .ok (.sipush 400, 3) := by decide +kernel
theorem dX8_reads_141 : decode cX8_reads 141 = .ok (.iload 5, 2) := by decide +kernel
theorem dX8_reads_143 : decode cX8_reads 143 = .ok (.iadd, 1) := by decide +kernel
theorem dX8_reads_144 : decode cX8_reads 144 = .ok (.ireturn, 1) := by decide +kernel
theorem dX8_reads_145 : decode cX8_reads 145 = .ok (.aload_n 0, 1) := by decide +kernel
theorem dX8_reads_146 : decode cX8_reads 146 = .ok (.getfield 20, 3) := by decide +kernel
theorem dX8_reads_149 : decode cX8_reads 149 = .ok (.iload 4, 2) := by decide +kernel
theorem dX8_reads_151 : decode cX8_reads 151 = .ok (.iload 6, 2) := by decide +kernel
theorem dX8_reads_153 : decode cX8_reads 153 = .ok (.iastore, 1) := by decide +kernel
theorem dX8_reads_154 : decode cX8_reads 154 = .ok (.iload_n 2, 1) := by decide +kernel
theorem dX8_reads_155 : decode cX8_reads 155 = .ok (.iload_n 1, 1) := by decide +kernel
theorem dX8_reads_156 : decode cX8_reads 156 = .ok (.if_icmp .ne 5, 3) := by decide +kernel
theorem dX8_reads_159 : decode cX8_reads 159 = .ok (.iconst 0, 1) := by decide +kernel
theorem dX8_reads_160 : decode cX8_reads 160 = .ok (.ireturn, 1) := by decide +kernel
theorem dX8_reads_161 : decode cX8_reads 161 = .ok (.aload_n 0, 1) := by decide +kernel
theorem dX8_reads_162 : decode cX8_reads 162 = .ok (.iload_n 2, 1) := by decide +kernel
theorem dX8_reads_163 : decode cX8_reads 163 = .ok (.iload_n 1, 1) := by decide +kernel
theorem dX8_reads_164 : decode cX8_reads 164 = .ok (.invokevirtual 124, 3) := by decide +kernel
theorem dX8_reads_167 : decode cX8_reads 167 = .ok (.bipush 59, 2) := by decide +kernel
theorem dX8_reads_169 : decode cX8_reads 169 = .ok (.if_icmp .eq 9, 3) := by decide +kernel
theorem dX8_reads_172 : decode cX8_reads 172 = .ok (.sipush 500, 3) := by decide +kernel
theorem dX8_reads_175 : decode cX8_reads 175 = .ok (.iload_n 2, 1) := by decide +kernel
theorem dX8_reads_176 : decode cX8_reads 176 = .ok (.iadd, 1) := by decide +kernel
theorem dX8_reads_177 : decode cX8_reads 177 = .ok (.ireturn, 1) := by decide +kernel
theorem dX8_reads_178 : decode cX8_reads 178 = .ok (.iinc 2 1, 3) := by decide +kernel
theorem dX8_reads_181 : decode cX8_reads 181 = .ok (.iinc 3 1, 3) := by decide +kernel
theorem dX8_reads_184 : decode cX8_reads 184 = .ok (.goto (-173), 3) := by decide +kernel
theorem dX8_reads_187 : decode cX8_reads 187 = .ok (.bipush 100, 2) := by decide +kernel
theorem dX8_reads_189 : decode cX8_reads 189 = .ok (.iload_n 2, 1) := by decide +kernel
theorem dX8_reads_190 : decode cX8_reads 190 = .ok (.iadd, 1) := by decide +kernel
theorem dX8_reads_191 : decode cX8_reads 191 = .ok (.ireturn, 1) := by decide +kernel
theorem dX8_edict_0 : decode cX8_edict 0 = .ok (.iload_n 1, 1) := by decide +kernel
theorem dX8_edict_1 : decode cX8_edict 1 = .ok (.ifCond .lt 11, 3) := by decide +kernel
theorem dX8_edict_4 : decode cX8_edict 4 = .ok (.iload_n 1, 1) := by decide +kernel
theorem dX8_edict_5 : decode cX8_edict 5 = .ok (.aload_n 0, 1) := by decide +kernel
theorem dX8_edict_6 : decode cX8_edict 6 = .ok (.getfield 110, 3) := by decide +kernel
theorem dX8_edict_9 : decode cX8_edict 9 = .ok (.if_icmp .le 5, 3) := by decide +kernel
theorem dX8_edict_12 : decode cX8_edict 12 = .ok (.iconst (-1), 1) := by decide +kernel
theorem dX8_edict_13 : decode cX8_edict 13 = .ok (.ireturn, 1) := by decide +kernel
theorem dX8_edict_14 : decode cX8_edict 14 = .ok (.aload_n 0, 1) := by decide +kernel
theorem dX8_edict_15 : decode cX8_edict 15 = .ok (.iconst 0, 1) := by decide +kernel
theorem dX8_edict_16 : decode cX8_edict 16 = .ok (.putfield 110, 3) := by decide +kernel
theorem dX8_edict_19 : decode cX8_edict 19 = .ok (.aload_n 0, 1) := by decide +kernel
theorem dX8_edict_20 : decode cX8_edict 20 = .ok (.iload_n 1, 1) := by decide +kernel
theorem dX8_edict_21 : decode cX8_edict 21 = .ok (.invokevirtual 140, 3) := by decide +kernel
theorem dX8_edict_24 : decode cX8_edict 24 = .ok (.istore_n 2, 1) := by decide +kernel
theorem dX8_edict_25 : decode cX8_edict 25 = .ok (.iconst 0, 1) := by decide +kernel
theorem dX8_edict_26 : decode cX8_edict 26 = .ok (.istore_n 3, 1) := by decide +kernel
theorem dX8_edict_27 : decode cX8_edict 27 = .ok (.iload_n 3, 1) := by decide +kernel
theorem dX8_edict_28 : decode cX8_edict 28 = .ok (.bipush 8, 2) := by decide +kernel
theorem dX8_edict_30 : decode cX8_edict 30 = .ok (.if_icmp .ge 25, 3) := by decide +kernel
theorem dX8_edict_33 : decode cX8_edict 33 = .ok (.iload_n 2, 1) := by decide +kernel
theorem dX8_edict_34 : decode cX8_edict 34 = .ok (.ifCond .ne 21, 3) := by decide +kernel
theorem dX8_edict_37 : decode cX8_edict 37 = .ok (.aload_n 0, 1) := by decide +kernel
theorem dX8_edict_38 : decode cX8_edict 38 = .ok (.getfield 17, 3) := by decide +kernel
theorem dX8_edict_41 : decode cX8_edict 41 = .ok (.iload_n 3, 1) := by decide +kernel
theorem dX8_edict_42 : decode cX8_edict 42 = .ok (.aload_n 0, 1) := by decide +kernel
theorem dX8_edict_43 : decode cX8_edict 43 = .ok (.getfield 20, 3) := by decide +kernel
theorem dX8_edict_46 : decode cX8_edict 46 = .ok (.iload_n 3, 1) := by decide +kernel
theorem dX8_edict_47 : decode cX8_edict 47 = .ok (.iaload, 1) := by decide +kernel
theorem dX8_edict_48 : decode cX8_edict 48 = .ok (.iastore, 1) := by decide +kernel
theorem dX8_edict_49 : decode cX8_edict 49 = .ok (.iinc 3 1, 3) := by decide +kernel
theorem dX8_edict_52 : decode cX8_edict 52 = .ok (.goto (-25), 3) := by decide +kernel
theorem dX8_edict_55 : decode cX8_edict 55 = .ok (.iload_n 2, 1) := by decide +kernel
theorem dX8_edict_56 : decode cX8_edict 56 = .ok (.ireturn, 1) := by decide +kernel
theorem dX8_rule_0 : decode cX8_rule 0 = .ok (.iload_n 1, 1) := by decide +kernel
theorem dX8_rule_1 : decode cX8_rule 1 = .ok (.invokestatic 128, 3) := by decide +kernel
theorem dX8_rule_4 : decode cX8_rule 4 = .ok (.iconst (-1), 1) := by decide +kernel
theorem dX8_rule_5 : decode cX8_rule 5 = .ok (.if_icmp .ne 7, 3) := by decide +kernel
theorem dX8_rule_8 : decode cX8_rule 8 = .ok (.iconst (-1), 1) := by decide +kernel
theorem dX8_rule_9 : decode cX8_rule 9 = .ok (.goto 12, 3) := by decide +kernel
theorem dX8_rule_12 : decode cX8_rule 12 = .ok (.aload_n 0, 1) := by decide +kernel
theorem dX8_rule_13 : decode cX8_rule 13 = .ok (.getfield 17, 3) := by decide +kernel
theorem dX8_rule_16 : decode cX8_rule 16 = .ok (.iload_n 1, 1) := by decide +kernel
theorem dX8_rule_17 : decode cX8_rule 17 = .ok (.invokestatic 128, 3) := by decide +kernel
theorem dX8_rule_20 : decode cX8_rule 20 = .ok (.iaload, 1) := by decide +kernel
theorem dX8_rule_21 : decode cX8_rule 21 = .ok (.ireturn, 1) := by decide +kernel
theorem dX8_town_0 : decode cX8_town 0 = .ok (.aload_n 0, 1) := by decide +kernel
theorem dX8_town_1 : decode cX8_town 1 = .ok (.getfield 143, 3) := by decide +kernel
theorem dX8_town_4 : decode cX8_town 4 = .ok (.bipush 8, 2) := by decide +kernel
theorem dX8_town_6 : decode cX8_town 6 = .ok (.if_icmp .eq 39, 3) := by decide +kernel
theorem dX8_town_9 : decode cX8_town 9 = .ok (.iload_n 1, 1) := by decide +kernel
theorem dX8_town_10 : decode cX8_town 10 = .ok (.i2l, 1) := by decide +kernel
theorem dX8_town_11 : decode cX8_town 11 = .ok (.lconst 1, 1) := by decide +kernel
theorem dX8_town_12 : decode cX8_town 12 = .ok (.ldc2_w 146, 3) := by decide +kernel
theorem dX8_town_15 : decode cX8_town 15 = .ok (.invokestatic 120, 3) := by decide +kernel
theorem dX8_town_18 : decode cX8_town 18 = .ok (.ifCond .eq 27, 3) := by decide +kernel
theorem dX8_town_21 : decode cX8_town 21 = .ok (.iload_n 2, 1) := by decide +kernel
theorem dX8_town_22 : decode cX8_town 22 = .ok (.i2l, 1) := by decide +kernel
theorem dX8_town_23 : decode cX8_town 23 = .ok (.lconst 0, 1) := by decide +kernel
theorem dX8_town_24 : decode cX8_town 24 = .ok (.ldc2_w 148, 3) := by decide +kernel
theorem dX8_town_27 : decode cX8_town 27 = .ok (.invokestatic 120, 3) := by decide +kernel
theorem dX8_town_30 : decode cX8_town 30 = .ok (.ifCond .eq 15, 3) := by decide +kernel
theorem dX8_town_33 : decode cX8_town 33 = .ok (.iload_n 3, 1) := by decide +kernel
theorem dX8_town_34 : decode cX8_town 34 = .ok (.i2l, 1) := by decide +kernel
theorem dX8_town_35 : decode cX8_town 35 = .ok (.lconst 0, 1) := by decide +kernel
theorem dX8_town_36 : decode cX8_town 36 = .ok (.ldc2_w 150, 3) := by decide +kernel
theorem dX8_town_39 : decode cX8_town 39 = .ok (.invokestatic 120, 3) := by decide +kernel
theorem dX8_town_42 : decode cX8_town 42 = .ok (.ifCond .ne 5, 3) := by decide +kernel
theorem dX8_town_45 : decode cX8_town 45 = .ok (.iconst (-1), 1) := by decide +kernel
theorem dX8_town_46 : decode cX8_town 46 = .ok (.ireturn, 1) := by decide +kernel
theorem dX8_town_47 : decode cX8_town 47 = .ok (.aload_n 0, 1) := by decide +kernel
theorem dX8_town_48 : decode cX8_town 48 = .ok (.getfield 23, 3) := by decide +kernel
theorem dX8_town_51 : decode cX8_town 51 = .ok (.aload_n 0, 1) := by decide +kernel
theorem dX8_town_52 : decode cX8_town 52 = .ok (.getfield 143, 3) := by decide +kernel
theorem dX8_town_55 : decode cX8_town 55 = .ok (.iload_n 1, 1) := by decide +kernel
theorem dX8_town_56 : decode cX8_town 56 = .ok (.iastore, 1) := by decide +kernel
theorem dX8_town_57 : decode cX8_town 57 = .ok (.aload_n 0, 1) := by decide +kernel
theorem dX8_town_58 : decode cX8_town 58 = .ok (.getfield 66, 3) := by decide +kernel
theorem dX8_town_61 : decode cX8_town 61 = .ok (.aload_n 0, 1) := by decide +kernel
theorem dX8_town_62 : decode cX8_town 62 = .ok (.getfield 143, 3) := by decide +kernel
theorem dX8_town_65 : decode cX8_town 65 = .ok (.iload_n 2, 1) := by decide +kernel
theorem dX8_town_66 : decode cX8_town 66 = .ok (.i2l, 1) := by decide +kernel
theorem dX8_town_67 : decode cX8_town 67 = .ok (.lastore, 1) := by decide +kernel
theorem dX8_town_68 : decode cX8_town 68 = .ok (.aload_n 0, 1) := by decide +kernel
theorem dX8_town_69 : decode cX8_town 69 = .ok (.getfield 26, 3) := by decide +kernel
theorem dX8_town_72 : decode cX8_town 72 = .ok (.aload_n 0, 1) := by decide +kernel
theorem dX8_town_73 : decode cX8_town 73 = .ok (.getfield 143, 3) := by decide +kernel
theorem dX8_town_76 : decode cX8_town 76 = .ok (.iload_n 3, 1) := by decide +kernel
theorem dX8_town_77 : decode cX8_town 77 = .ok (.iastore, 1) := by decide +kernel
theorem dX8_town_78 : decode cX8_town 78 = .ok (.aload_n 0, 1) := by decide +kernel
theorem dX8_town_79 : decode cX8_town 79 = .ok (.getfield 29, 3) := by decide +kernel
theorem dX8_town_82 : decode cX8_town 82 = .ok (.aload_n 0, 1) := by decide +kernel
theorem dX8_town_83 : decode cX8_town 83 = .ok (.getfield 143, 3) := by decide +kernel
theorem dX8_town_86 : decode cX8_town 86 = .ok (.iconst (-1), 1) := by decide +kernel
theorem dX8_town_87 : decode cX8_town 87 = .ok (.iastore, 1) := by decide +kernel
theorem dX8_town_88 : decode cX8_town 88 = .ok (.aload_n 0, 1) := by decide +kernel
theorem dX8_town_89 : decode cX8_town 89 = .ok (.dup, 1) := by decide +kernel
theorem dX8_town_90 : decode cX8_town 90 = .ok (.getfield 143, 3) := by decide +kernel
theorem dX8_town_93 : decode cX8_town 93 = .ok (.iconst 1, 1) := by decide +kernel
theorem dX8_town_94 : decode cX8_town 94 = .ok (.iadd, 1) := by decide +kernel
theorem dX8_town_95 : decode cX8_town 95 = .ok (.putfield 143, 3) := by decide +kernel
theorem dX8_town_98 : decode cX8_town 98 = .ok (.aload_n 0, 1) := by decide +kernel
theorem dX8_town_99 : decode cX8_town 99 = .ok (.getfield 143, 3) := by decide +kernel
theorem dX8_town_102 : decode cX8_town 102 = .ok (.iconst 1, 1) := by decide +kernel
theorem dX8_town_103 : decode cX8_town 103 = .ok (.isub, 1) := by decide +kernel
theorem dX8_town_104 : decode cX8_town 104 = .ok (.ireturn, 1) := by decide +kernel
theorem dX8_isTown_0 : decode cX8_isTown 0 = .ok (.iload_n 1, 1) := by decide +kernel
theorem dX8_isTown_1 : decode cX8_isTown 1 = .ok (.i2l, 1) := by decide +kernel
theorem dX8_isTown_2 : decode cX8_isTown 2 = .ok (.lconst 0, 1) := by decide +kernel
theorem dX8_isTown_3 : decode cX8_isTown 3 = .ok (.aload_n 0, 1) := by decide +kernel
theorem dX8_isTown_4 : decode cX8_isTown 4 = .ok (.getfield 143, 3) := by decide +kernel
theorem dX8_isTown_7 : decode cX8_isTown 7 = .ok (.iconst 1, 1) := by decide +kernel
theorem dX8_isTown_8 : decode cX8_isTown 8 = .ok (.isub, 1) := by decide +kernel
theorem dX8_isTown_9 : decode cX8_isTown 9 = .ok (.i2l, 1) := by decide +kernel
theorem dX8_isTown_10 : decode cX8_isTown 10 = .ok (.invokestatic 120, 3) := by decide +kernel
theorem dX8_isTown_13 : decode cX8_isTown 13 = .ok (.ireturn, 1) := by decide +kernel
theorem dX8_road_0 : decode cX8_road 0 = .ok (.aload_n 0, 1) := by decide +kernel
theorem dX8_road_1 : decode cX8_road 1 = .ok (.getfield 152, 3) := by decide +kernel
theorem dX8_road_4 : decode cX8_road 4 = .ok (.bipush 12, 2) := by decide +kernel
theorem dX8_road_6 : decode cX8_road 6 = .ok (.if_icmp .eq 49, 3) := by decide +kernel
theorem dX8_road_9 : decode cX8_road 9 = .ok (.aload_n 0, 1) := by decide +kernel
theorem dX8_road_10 : decode cX8_road 10 = .ok (.iload_n 1, 1) := by decide +kernel
theorem dX8_road_11 : decode cX8_road 11 = .ok (.invokevirtual 155, 3) := by decide +kernel
theorem dX8_road_14 : decode cX8_road 14 = .ok (.ifCond .eq 41, 3) := by decide +kernel
theorem dX8_road_17 : decode cX8_road 17 = .ok (.aload_n 0, 1) := by decide +kernel
theorem dX8_road_18 : decode cX8_road 18 = .ok (.iload_n 2, 1) := by decide +kernel
theorem dX8_road_19 : decode cX8_road 19 = .ok (.invokevirtual 155, 3) := by decide +kernel
theorem dX8_road_22 : decode cX8_road 22 = .ok (.ifCond .eq 33, 3) := by decide +kernel
theorem dX8_road_25 : decode cX8_road 25 = .ok (.iload_n 1, 1) := by decide +kernel
theorem dX8_road_26 : decode cX8_road 26 = .ok (.iload_n 2, 1) := by decide +kernel
theorem dX8_road_27 : decode cX8_road 27 = .ok (.if_icmp .eq 28, 3) := by decide +kernel
theorem dX8_road_30 : decode cX8_road 30 = .ok (.iload_n 3, 1) := by decide +kernel
theorem dX8_road_31 : decode cX8_road 31 = .ok (.i2l, 1) := by decide +kernel
theorem dX8_road_32 : decode cX8_road 32 = .ok (.lconst 1, 1) := by decide +kernel
theorem dX8_road_33 : decode cX8_road 33 = .ok (.ldc2_w 159, 3) := by decide +kernel
theorem dX8_road_36 : decode cX8_road 36 = .ok (.invokestatic 120, 3) := by decide +kernel
theorem dX8_road_39 : decode cX8_road 39 = .ok (.ifCond .eq 16, 3) := by decide +kernel
theorem dX8_road_42 : decode cX8_road 42 = .ok (.iload 4, 2) := by decide +kernel
theorem dX8_road_44 : decode cX8_road 44 = .ok (.i2l, 1) := by decide +kernel
theorem dX8_road_45 : decode cX8_road 45 = .ok (.lconst 1, 1) := by decide +kernel
theorem dX8_road_46 : decode cX8_road 46 = .ok (.ldc2_w 161, 3) := by decide +kernel
theorem dX8_road_49 : decode cX8_road 49 = .ok (.invokestatic 120, 3) := by decide +kernel
theorem dX8_road_52 : decode cX8_road 52 = .ok (.ifCond .ne 5, 3) := by decide +kernel
theorem dX8_road_55 : decode cX8_road 55 = .ok (.iconst (-1), 1) := by decide +kernel
theorem dX8_road_56 : decode cX8_road 56 = .ok (.ireturn, 1) := by decide +kernel
theorem dX8_road_57 : decode cX8_road 57 = .ok (.aload_n 0, 1) := by decide +kernel
theorem dX8_road_58 : decode cX8_road 58 = .ok (.getfield 32, 3) := by decide +kernel
theorem dX8_road_61 : decode cX8_road 61 = .ok (.aload_n 0, 1) := by decide +kernel
theorem dX8_road_62 : decode cX8_road 62 = .ok (.getfield 152, 3) := by decide +kernel
theorem dX8_road_65 : decode cX8_road 65 = .ok (.iload_n 1, 1) := by decide +kernel
theorem dX8_road_66 : decode cX8_road 66 = .ok (.iastore, 1) := by decide +kernel
theorem dX8_road_67 : decode cX8_road 67 = .ok (.aload_n 0, 1) := by decide +kernel
theorem dX8_road_68 : decode cX8_road 68 = .ok (.getfield 35, 3) := by decide +kernel
theorem dX8_road_71 : decode cX8_road 71 = .ok (.aload_n 0, 1) := by decide +kernel
theorem dX8_road_72 : decode cX8_road 72 = .ok (.getfield 152, 3) := by decide +kernel
theorem dX8_road_75 : decode cX8_road 75 = .ok (.iload_n 2, 1) := by decide +kernel
theorem dX8_road_76 : decode cX8_road 76 = .ok (.iastore, 1) := by decide +kernel
theorem dX8_road_77 : decode cX8_road 77 = .ok (.aload_n 0, 1) := by decide +kernel
theorem dX8_road_78 : decode cX8_road 78 = .ok (.getfield 38, 3) := by decide +kernel
theorem dX8_road_81 : decode cX8_road 81 = .ok (.aload_n 0, 1) := by decide +kernel
theorem dX8_road_82 : decode cX8_road 82 = .ok (.getfield 152, 3) := by decide +kernel
theorem dX8_road_85 : decode cX8_road 85 = .ok (.iload_n 3, 1) := by decide +kernel
theorem dX8_road_86 : decode cX8_road 86 = .ok (.iastore, 1) := by decide +kernel
theorem dX8_road_87 : decode cX8_road 87 = .ok (.aload_n 0, 1) := by decide +kernel
theorem dX8_road_88 : decode cX8_road 88 = .ok (.getfield 41, 3) := by decide +kernel
theorem dX8_road_91 : decode cX8_road 91 = .ok (.aload_n 0, 1) := by decide +kernel
theorem dX8_road_92 : decode cX8_road 92 = .ok (.getfield 152, 3) := by decide +kernel
theorem dX8_road_95 : decode cX8_road 95 = .ok (.iload 4, 2) := by decide +kernel
theorem dX8_road_97 : decode cX8_road 97 = .ok (.iastore, 1) := by decide +kernel
theorem dX8_road_98 : decode cX8_road 98 = .ok (.aload_n 0, 1) := by decide +kernel
theorem dX8_road_99 : decode cX8_road 99 = .ok (.dup, 1) := by decide +kernel
theorem dX8_road_100 : decode cX8_road 100 = .ok (.getfield 152, 3) := by decide +kernel
theorem dX8_road_103 : decode cX8_road 103 = .ok (.iconst 1, 1) := by decide +kernel
theorem dX8_road_104 : decode cX8_road 104 = .ok (.iadd, 1) := by decide +kernel
theorem dX8_road_105 : decode cX8_road 105 = .ok (.putfield 152, 3) := by decide +kernel
theorem dX8_road_108 : decode cX8_road 108 = .ok (.aload_n 0, 1) := by decide +kernel
theorem dX8_road_109 : decode cX8_road 109 = .ok (.getfield 152, 3) := by decide +kernel
theorem dX8_road_112 : decode cX8_road 112 = .ok (.iconst 1, 1) := by decide +kernel
theorem dX8_road_113 : decode cX8_road 113 = .ok (.isub, 1) := by decide +kernel
theorem dX8_road_114 : decode cX8_road 114 = .ok (.ireturn, 1) := by decide +kernel
theorem dX8_coin_0 : decode cX8_coin 0 = .ok (.lload_n 1, 1) := by decide +kernel
theorem dX8_coin_1 : decode cX8_coin 1 = .ok (.lconst 0, 1) := by decide +kernel
theorem dX8_coin_2 : decode cX8_coin 2 = .ok (.ldc2_w 163, 3) := by decide +kernel
theorem dX8_coin_5 : decode cX8_coin 5 = .ok (.invokestatic 120, 3) := by decide +kernel
theorem dX8_coin_8 : decode cX8_coin 8 = .ok (.ifCond .ne 5, 3) := by decide +kernel
theorem dX8_coin_11 : decode cX8_coin 11 = .ok (.iconst 0, 1) := by decide +kernel
theorem dX8_coin_12 : decode cX8_coin 12 = .ok (.ireturn, 1) := by decide +kernel
theorem dX8_coin_13 : decode cX8_coin 13 = .ok (.aload_n 0, 1) := by decide +kernel
theorem dX8_coin_14 : decode cX8_coin 14 = .ok (.getfield 50, 3) := by decide +kernel
theorem dX8_coin_17 : decode cX8_coin 17 = .ok (.iconst 0, 1) := by decide +kernel
theorem dX8_coin_18 : decode cX8_coin 18 = .ok (.lload_n 1, 1) := by decide +kernel
theorem dX8_coin_19 : decode cX8_coin 19 = .ok (.lastore, 1) := by decide +kernel
theorem dX8_coin_20 : decode cX8_coin 20 = .ok (.iconst 1, 1) := by decide +kernel
theorem dX8_coin_21 : decode cX8_coin 21 = .ok (.ireturn, 1) := by decide +kernel
theorem dX8_harvest_0 : decode cX8_harvest 0 = .ok (.aload_n 0, 1) := by decide +kernel
theorem dX8_harvest_1 : decode cX8_harvest 1 = .ok (.iload_n 1, 1) := by decide +kernel
theorem dX8_harvest_2 : decode cX8_harvest 2 = .ok (.invokevirtual 155, 3) := by decide +kernel
theorem dX8_harvest_5 : decode cX8_harvest 5 = .ok (.ifCond .eq 15, 3) := by decide +kernel
theorem dX8_harvest_8 : decode cX8_harvest 8 = .ok (.iload_n 2, 1) := by decide +kernel
theorem dX8_harvest_9 : decode cX8_harvest 9 = .ok (.i2l, 1) := by decide +kernel
theorem dX8_harvest_10 : decode cX8_harvest 10 = .ok (.lconst 0, 1) := by decide +kernel
theorem dX8_harvest_11 : decode cX8_harvest 11 = .ok (.ldc2_w 148, 3) := by decide +kernel
theorem dX8_harvest_14 : decode cX8_harvest 14 = .ok (.invokestatic 120, 3) := by decide +kernel
theorem dX8_harvest_17 : decode cX8_harvest 17 = .ok (.ifCond .ne 5, 3) := by decide +kernel
theorem dX8_harvest_20 : decode cX8_harvest 20 = .ok (.iconst 0, 1) := by decide +kernel
theorem dX8_harvest_21 : decode cX8_harvest 21 = .ok (.ireturn, 1) := by decide +kernel
theorem dX8_harvest_22 : decode cX8_harvest 22 = .ok (.aload_n 0, 1) := by decide +kernel
theorem dX8_harvest_23 : decode cX8_harvest 23 = .ok (.getfield 29, 3) := by decide +kernel
theorem dX8_harvest_26 : decode cX8_harvest 26 = .ok (.iload_n 1, 1) := by decide +kernel
theorem dX8_harvest_27 : decode cX8_harvest 27 = .ok (.iload_n 2, 1) := by decide +kernel
theorem dX8_harvest_28 : decode cX8_harvest 28 = .ok (.iastore, 1) := by decide +kernel
theorem dX8_harvest_29 : decode cX8_harvest 29 = .ok (.iconst 1, 1) := by decide +kernel
theorem dX8_harvest_30 : decode cX8_harvest 30 = .ok (.ireturn, 1) := by decide +kernel
theorem dX8_trueIn_0 : decode cX8_trueIn 0 = .ok (.lconst 0, 1) := by decide +kernel
theorem dX8_trueIn_1 : decode cX8_trueIn 1 = .ok (.lstore_n 2, 1) := by decide +kernel
theorem dX8_trueIn_2 : decode cX8_trueIn 2 = .ok (.iconst 0, 1) := by decide +kernel
theorem dX8_trueIn_3 : decode cX8_trueIn 3 = .ok (.istore 4, 2) := by decide +kernel
theorem dX8_trueIn_5 : decode cX8_trueIn 5 = .ok (.iload 4, 2) := by decide +kernel
theorem dX8_trueIn_7 : decode cX8_trueIn 7 = .ok (.aload_n 0, 1) := by decide +kernel
theorem dX8_trueIn_8 : decode cX8_trueIn 8 = .ok (.getfield 69, 3) := by decide +kernel
theorem dX8_trueIn_11 : decode cX8_trueIn 11 = .ok (.iload_n 1, 1) := by decide +kernel
theorem dX8_trueIn_12 : decode cX8_trueIn 12 = .ok (.iaload, 1) := by decide +kernel
theorem dX8_trueIn_13 : decode cX8_trueIn 13 = .ok (.if_icmp .ge 25, 3) := by decide +kernel
theorem dX8_trueIn_16 : decode cX8_trueIn 16 = .ok (.lload_n 2, 1) := by decide +kernel
theorem dX8_trueIn_17 : decode cX8_trueIn 17 = .ok (.aload_n 0, 1) := by decide +kernel
theorem dX8_trueIn_18 : decode cX8_trueIn 18 = .ok (.getfield 99, 3) := by decide +kernel
theorem dX8_trueIn_21 : decode cX8_trueIn 21 = .ok (.bipush 40, 2) := by decide +kernel
theorem dX8_trueIn_23 : decode cX8_trueIn 23 = .ok (.iload_n 1, 1) := by decide +kernel
theorem dX8_trueIn_24 : decode cX8_trueIn 24 = .ok (.imul, 1) := by decide +kernel
theorem dX8_trueIn_25 : decode cX8_trueIn 25 = .ok (.iload 4, 2) := by decide +kernel
theorem dX8_trueIn_27 : decode cX8_trueIn 27 = .ok (.iadd, 1) := by decide +kernel
theorem dX8_trueIn_28 : decode cX8_trueIn 28 = .ok (.iaload, 1) := by decide +kernel
theorem dX8_trueIn_29 : decode cX8_trueIn 29 = .ok (.i2l, 1) := by decide +kernel
theorem dX8_trueIn_30 : decode cX8_trueIn 30 = .ok (.ladd, 1) := by decide +kernel
theorem dX8_trueIn_31 : decode cX8_trueIn 31 = .ok (.lstore_n 2, 1) := by decide +kernel
theorem dX8_trueIn_32 : decode cX8_trueIn 32 = .ok (.iinc 4 1, 3) := by decide +kernel
theorem dX8_trueIn_35 : decode cX8_trueIn 35 = .ok (.goto (-30), 3) := by decide +kernel
theorem dX8_trueIn_38 : decode cX8_trueIn 38 = .ok (.lload_n 2, 1) := by decide +kernel
theorem dX8_trueIn_39 : decode cX8_trueIn 39 = .ok (.lreturn, 1) := by decide +kernel
theorem dX8_bookIn_0 : decode cX8_bookIn 0 = .ok (.lconst 0, 1) := by decide +kernel
theorem dX8_bookIn_1 : decode cX8_bookIn 1 = .ok (.lstore_n 3, 1) := by decide +kernel
theorem dX8_bookIn_2 : decode cX8_bookIn 2 = .ok (.iconst 0, 1) := by decide +kernel
theorem dX8_bookIn_3 : decode cX8_bookIn 3 = .ok (.istore 5, 2) := by decide +kernel
theorem dX8_bookIn_5 : decode cX8_bookIn 5 = .ok (.iload 5, 2) := by decide +kernel
theorem dX8_bookIn_7 : decode cX8_bookIn 7 = .ok (.aload_n 0, 1) := by decide +kernel
theorem dX8_bookIn_8 : decode cX8_bookIn 8 = .ok (.getfield 69, 3) := by decide +kernel
theorem dX8_bookIn_11 : decode cX8_bookIn 11 = .ok (.iload_n 1, 1) := by decide +kernel
theorem dX8_bookIn_12 : decode cX8_bookIn 12 = .ok (.iaload, 1) := by decide +kernel
theorem dX8_bookIn_13 : decode cX8_bookIn 13 = .ok (.if_icmp .ge 48, 3) := by decide +kernel
theorem dX8_bookIn_16 : decode cX8_bookIn 16 = .ok (.lload_n 3, 1) := by decide +kernel
theorem dX8_bookIn_17 : decode cX8_bookIn 17 = .ok (.iload_n 2, 1) := by decide +kernel
theorem dX8_bookIn_18 : decode cX8_bookIn 18 = .ok (.ifCond .ne 18, 3) := by decide +kernel
theorem dX8_bookIn_21 : decode cX8_bookIn 21 = .ok (.aload_n 0, 1) := by decide +kernel
theorem dX8_bookIn_22 : decode cX8_bookIn 22 = .ok (.getfield 102, 3) := by decide +kernel
theorem dX8_bookIn_25 : decode cX8_bookIn 25 = .ok (.bipush 40, 2) := by decide +kernel
theorem dX8_bookIn_27 : decode cX8_bookIn 27 = .ok (.iload_n 1, 1) := by decide +kernel
theorem dX8_bookIn_28 : decode cX8_bookIn 28 = .ok (.imul, 1) := by decide +kernel
theorem dX8_bookIn_29 : decode cX8_bookIn 29 = .ok (.iload 5, 2) := by decide +kernel
theorem dX8_bookIn_31 : decode cX8_bookIn 31 = .ok (.iadd, 1) := by decide +kernel
theorem dX8_bookIn_32 : decode cX8_bookIn 32 = .ok (.baload, 1) := by decide +kernel
theorem dX8_bookIn_33 : decode cX8_bookIn 33 = .ok (.ifCond .ne 19, 3) := by decide +kernel
theorem dX8_bookIn_36 : decode cX8_bookIn 36 = .ok (.aload_n 0, 1) := by decide +kernel
theorem dX8_bookIn_37 : decode cX8_bookIn 37 = .ok (.getfield 96, 3) := by decide +kernel
theorem dX8_bookIn_40 : decode cX8_bookIn 40 = .ok (.bipush 40, 2) := by decide +kernel
theorem dX8_bookIn_42 : decode cX8_bookIn 42 = .ok (.iload_n 1, 1) := by decide +kernel
theorem dX8_bookIn_43 : decode cX8_bookIn 43 = .ok (.imul, 1) := by decide +kernel
theorem dX8_bookIn_44 : decode cX8_bookIn 44 = .ok (.iload 5, 2) := by decide +kernel
theorem dX8_bookIn_46 : decode cX8_bookIn 46 = .ok (.iadd, 1) := by decide +kernel
theorem dX8_bookIn_47 : decode cX8_bookIn 47 = .ok (.iaload, 1) := by decide +kernel
theorem dX8_bookIn_48 : decode cX8_bookIn 48 = .ok (.i2l, 1) := by decide +kernel
theorem dX8_bookIn_49 : decode cX8_bookIn 49 = .ok (.goto 4, 3) := by decide +kernel
theorem dX8_bookIn_52 : decode cX8_bookIn 52 = .ok (.lconst 0, 1) := by decide +kernel
theorem dX8_bookIn_53 : decode cX8_bookIn 53 = .ok (.ladd, 1) := by decide +kernel
theorem dX8_bookIn_54 : decode cX8_bookIn 54 = .ok (.lstore_n 3, 1) := by decide +kernel
theorem dX8_bookIn_55 : decode cX8_bookIn 55 = .ok (.iinc 5 1, 3) := by decide +kernel
theorem dX8_bookIn_58 : decode cX8_bookIn 58 = .ok (.goto (-53), 3) := by decide +kernel
theorem dX8_bookIn_61 : decode cX8_bookIn 61 = .ok (.lload_n 3, 1) := by decide +kernel
theorem dX8_bookIn_62 : decode cX8_bookIn 62 = .ok (.lreturn, 1) := by decide +kernel
theorem dX8_goes_0 : decode cX8_goes 0 = .ok (.aload_n 0, 1) := by decide +kernel
theorem dX8_goes_1 : decode cX8_goes 1 = .ok (.getfield 72, 3) := by decide +kernel
theorem dX8_goes_4 : decode cX8_goes 4 = .ok (.iload_n 1, 1) := by decide +kernel
theorem dX8_goes_5 : decode cX8_goes 5 = .ok (.dup2, 1) := by decide +kernel
theorem dX8_goes_6 : decode cX8_goes 6 = .ok (.laload, 1) := by decide +kernel
theorem dX8_goes_7 : decode cX8_goes 7 = .ok (.aload_n 0, 1) := by decide +kernel
theorem dX8_goes_8 : decode cX8_goes 8 = .ok (.getfield 96, 3) := by decide +kernel
theorem dX8_goes_11 : decode cX8_goes 11 = .ok (.bipush 40, 2) := by decide +kernel
theorem dX8_goes_13 : decode cX8_goes 13 = .ok (.iload_n 1, 1) := by decide +kernel
theorem dX8_goes_14 : decode cX8_goes 14 = .ok (.imul, 1) := by decide +kernel
theorem dX8_goes_15 : decode cX8_goes 15 = .ok (.iload_n 2, 1) := by decide +kernel
theorem dX8_goes_16 : decode cX8_goes 16 = .ok (.iadd, 1) := by decide +kernel
theorem dX8_goes_17 : decode cX8_goes 17 = .ok (.iaload, 1) := by decide +kernel
theorem dX8_goes_18 : decode cX8_goes 18 = .ok (.i2l, 1) := by decide +kernel
theorem dX8_goes_19 : decode cX8_goes 19 = .ok (.ladd, 1) := by decide +kernel
theorem dX8_goes_20 : decode cX8_goes 20 = .ok (.lastore, 1) := by decide +kernel
theorem dX8_goes_21 : decode cX8_goes 21 = .ok (.aload_n 0, 1) := by decide +kernel
theorem dX8_goes_22 : decode cX8_goes 22 = .ok (.getfield 69, 3) := by decide +kernel
theorem dX8_goes_25 : decode cX8_goes 25 = .ok (.iload_n 1, 1) := by decide +kernel
theorem dX8_goes_26 : decode cX8_goes 26 = .ok (.dup2, 1) := by decide +kernel
theorem dX8_goes_27 : decode cX8_goes 27 = .ok (.iaload, 1) := by decide +kernel
theorem dX8_goes_28 : decode cX8_goes 28 = .ok (.iconst 1, 1) := by decide +kernel
theorem dX8_goes_29 : decode cX8_goes 29 = .ok (.isub, 1) := by decide +kernel
theorem dX8_goes_30 : decode cX8_goes 30 = .ok (.iastore, 1) := by decide +kernel
theorem dX8_goes_31 : decode cX8_goes 31 = .ok (.bipush 40, 2) := by decide +kernel
theorem dX8_goes_33 : decode cX8_goes 33 = .ok (.iload_n 1, 1) := by decide +kernel
theorem dX8_goes_34 : decode cX8_goes 34 = .ok (.imul, 1) := by decide +kernel
theorem dX8_goes_35 : decode cX8_goes 35 = .ok (.iload_n 2, 1) := by decide +kernel
theorem dX8_goes_36 : decode cX8_goes 36 = .ok (.iadd, 1) := by decide +kernel
theorem dX8_goes_37 : decode cX8_goes 37 = .ok (.istore_n 3, 1) := by decide +kernel
theorem dX8_goes_38 : decode cX8_goes 38 = .ok (.iload_n 3, 1) := by decide +kernel
theorem dX8_goes_39 : decode cX8_goes 39 = .ok (.bipush 40, 2) := by decide +kernel
theorem dX8_goes_41 : decode cX8_goes 41 = .ok (.iload_n 1, 1) := by decide +kernel
theorem dX8_goes_42 : decode cX8_goes 42 = .ok (.imul, 1) := by decide +kernel
theorem dX8_goes_43 : decode cX8_goes 43 = .ok (.aload_n 0, 1) := by decide +kernel
theorem dX8_goes_44 : decode cX8_goes 44 = .ok (.getfield 69, 3) := by decide +kernel
theorem dX8_goes_47 : decode cX8_goes 47 = .ok (.iload_n 1, 1) := by decide +kernel
theorem dX8_goes_48 : decode cX8_goes 48 = .ok (.iaload, 1) := by decide +kernel
theorem dX8_goes_49 : decode cX8_goes 49 = .ok (.iadd, 1) := by decide +kernel
theorem dX8_goes_50 : decode cX8_goes 50 = .ok (.if_icmp .ge 65, 3) := by decide +kernel
theorem dX8_goes_53 : decode cX8_goes 53 = .ok (.aload_n 0, 1) := by decide +kernel
theorem dX8_goes_54 : decode cX8_goes 54 = .ok (.getfield 93, 3) := by decide +kernel
theorem dX8_goes_57 : decode cX8_goes 57 = .ok (.iload_n 3, 1) := by decide +kernel
theorem dX8_goes_58 : decode cX8_goes 58 = .ok (.aload_n 0, 1) := by decide +kernel
theorem dX8_goes_59 : decode cX8_goes 59 = .ok (.getfield 93, 3) := by decide +kernel
theorem dX8_goes_62 : decode cX8_goes 62 = .ok (.iload_n 3, 1) := by decide +kernel
theorem dX8_goes_63 : decode cX8_goes 63 = .ok (.iconst 1, 1) := by decide +kernel
theorem dX8_goes_64 : decode cX8_goes 64 = .ok (.iadd, 1) := by decide +kernel
theorem dX8_goes_65 : decode cX8_goes 65 = .ok (.iaload, 1) := by decide +kernel
theorem dX8_goes_66 : decode cX8_goes 66 = .ok (.iastore, 1) := by decide +kernel
theorem dX8_goes_67 : decode cX8_goes 67 = .ok (.aload_n 0, 1) := by decide +kernel
theorem dX8_goes_68 : decode cX8_goes 68 = .ok (.getfield 96, 3) := by decide +kernel
theorem dX8_goes_71 : decode cX8_goes 71 = .ok (.iload_n 3, 1) := by decide +kernel
theorem dX8_goes_72 : decode cX8_goes 72 = .ok (.aload_n 0, 1) := by decide +kernel
theorem dX8_goes_73 : decode cX8_goes 73 = .ok (.getfield 96, 3) := by decide +kernel
theorem dX8_goes_76 : decode cX8_goes 76 = .ok (.iload_n 3, 1) := by decide +kernel
theorem dX8_goes_77 : decode cX8_goes 77 = .ok (.iconst 1, 1) := by decide +kernel
theorem dX8_goes_78 : decode cX8_goes 78 = .ok (.iadd, 1) := by decide +kernel
theorem dX8_goes_79 : decode cX8_goes 79 = .ok (.iaload, 1) := by decide +kernel
theorem dX8_goes_80 : decode cX8_goes 80 = .ok (.iastore, 1) := by decide +kernel
theorem dX8_goes_81 : decode cX8_goes 81 = .ok (.aload_n 0, 1) := by decide +kernel
theorem dX8_goes_82 : decode cX8_goes 82 = .ok (.getfield 99, 3) := by decide +kernel
theorem dX8_goes_85 : decode cX8_goes 85 = .ok (.iload_n 3, 1) := by decide +kernel
theorem dX8_goes_86 : decode cX8_goes 86 = .ok (.aload_n 0, 1) := by decide +kernel
theorem dX8_goes_87 : decode cX8_goes 87 = .ok (.getfield 99, 3) := by decide +kernel
theorem dX8_goes_90 : decode cX8_goes 90 = .ok (.iload_n 3, 1) := by decide +kernel
theorem dX8_goes_91 : decode cX8_goes 91 = .ok (.iconst 1, 1) := by decide +kernel
theorem dX8_goes_92 : decode cX8_goes 92 = .ok (.iadd, 1) := by decide +kernel
theorem dX8_goes_93 : decode cX8_goes 93 = .ok (.iaload, 1) := by decide +kernel
theorem dX8_goes_94 : decode cX8_goes 94 = .ok (.iastore, 1) := by decide +kernel
theorem dX8_goes_95 : decode cX8_goes 95 = .ok (.aload_n 0, 1) := by decide +kernel
theorem dX8_goes_96 : decode cX8_goes 96 = .ok (.getfield 102, 3) := by decide +kernel
theorem dX8_goes_99 : decode cX8_goes 99 = .ok (.iload_n 3, 1) := by decide +kernel
theorem dX8_goes_100 : decode cX8_goes 100 = .ok (.aload_n 0, 1) := by decide +kernel
theorem dX8_goes_101 : decode cX8_goes 101 = .ok (.getfield 102, 3) := by decide +kernel
theorem dX8_goes_104 : decode cX8_goes 104 = .ok (.iload_n 3, 1) := by decide +kernel
theorem dX8_goes_105 : decode cX8_goes 105 = .ok (.iconst 1, 1) := by decide +kernel
theorem dX8_goes_106 : decode cX8_goes 106 = .ok (.iadd, 1) := by decide +kernel
theorem dX8_goes_107 : decode cX8_goes 107 = .ok (.baload, 1) := by decide +kernel
theorem dX8_goes_108 : decode cX8_goes 108 = .ok (.bastore, 1) := by decide +kernel
theorem dX8_goes_109 : decode cX8_goes 109 = .ok (.iinc 3 1, 3) := by decide +kernel
theorem dX8_goes_112 : decode cX8_goes 112 = .ok (.goto (-74), 3) := by decide +kernel
theorem dX8_goes_115 : decode cX8_goes 115 = .ok (.return_, 1) := by decide +kernel
theorem dX8_takes_0 : decode cX8_takes 0 = .ok (.lload_n 2, 1) := by decide +kernel
theorem dX8_takes_1 : decode cX8_takes 1 = .ok (.lstore 4, 2) := by decide +kernel
theorem dX8_takes_3 : decode cX8_takes 3 = .ok (.lload 4, 2) := by decide +kernel
theorem dX8_takes_5 : decode cX8_takes 5 = .ok (.lconst 0, 1) := by decide +kernel
theorem dX8_takes_6 : decode cX8_takes 6 = .ok (.lcmp, 1) := by decide +kernel
theorem dX8_takes_7 : decode cX8_takes 7 = .ok (.ifCond .le 99, 3) := by decide +kernel
theorem dX8_takes_10 : decode cX8_takes 10 = .ok (.aload_n 0, 1) := by decide +kernel
theorem dX8_takes_11 : decode cX8_takes 11 = .ok (.getfield 69, 3) := by decide +kernel
theorem dX8_takes_14 : decode cX8_takes 14 = .ok (.iload_n 1, 1) := by decide +kernel
theorem dX8_takes_15 : decode cX8_takes 15 = .ok (.iaload, 1) := by decide +kernel
theorem dX8_takes_16 : decode cX8_takes 16 = .ok (.ifCond .le 90, 3) := by decide +kernel
theorem dX8_takes_19 : decode cX8_takes 19 = .ok (.bipush 40, 2) := by decide +kernel
theorem dX8_takes_21 : decode cX8_takes 21 = .ok (.iload_n 1, 1) := by decide +kernel
theorem dX8_takes_22 : decode cX8_takes 22 = .ok (.imul, 1) := by decide +kernel
theorem dX8_takes_23 : decode cX8_takes 23 = .ok (.istore 6, 2) := by decide +kernel
theorem dX8_takes_25 : decode cX8_takes 25 = .ok (.aload_n 0, 1) := by decide +kernel
theorem dX8_takes_26 : decode cX8_takes 26 = .ok (.getfield 99, 3) := by decide +kernel
theorem dX8_takes_29 : decode cX8_takes 29 = .ok (.iload 6, 2) := by decide +kernel
theorem dX8_takes_31 : decode cX8_takes 31 = .ok (.iaload, 1) := by decide +kernel
theorem dX8_takes_32 : decode cX8_takes 32 = .ok (.i2l, 1) := by decide +kernel
theorem dX8_takes_33 : decode cX8_takes 33 = .ok (.lload 4, 2) := by decide +kernel
theorem dX8_takes_35 : decode cX8_takes 35 = .ok (.lcmp, 1) := by decide +kernel
theorem dX8_takes_36 : decode cX8_takes 36 = .ok (.ifCond .ge 13, 3) := by decide +kernel
theorem dX8_takes_39 : decode cX8_takes 39 = .ok (.aload_n 0, 1) := by decide +kernel
theorem dX8_takes_40 : decode cX8_takes 40 = .ok (.getfield 99, 3) := by decide +kernel
theorem dX8_takes_43 : decode cX8_takes 43 = .ok (.iload 6, 2) := by decide +kernel
theorem dX8_takes_45 : decode cX8_takes 45 = .ok (.iaload, 1) := by decide +kernel
theorem dX8_takes_46 : decode cX8_takes 46 = .ok (.goto 6, 3) := by decide +kernel
theorem dX8_takes_49 : decode cX8_takes 49 = .ok (.lload 4, 2) := by decide +kernel
theorem dX8_takes_51 : decode cX8_takes 51 = .ok (.l2i, 1) := by decide +kernel
theorem dX8_takes_52 : decode cX8_takes 52 = .ok (.istore 7, 2) := by decide +kernel
theorem dX8_takes_54 : decode cX8_takes 54 = .ok (.aload_n 0, 1) := by decide +kernel
theorem dX8_takes_55 : decode cX8_takes 55 = .ok (.getfield 99, 3) := by decide +kernel
theorem dX8_takes_58 : decode cX8_takes 58 = .ok (.iload 6, 2) := by decide +kernel
theorem dX8_takes_60 : decode cX8_takes 60 = .ok (.dup2, 1) := by decide +kernel
theorem dX8_takes_61 : decode cX8_takes 61 = .ok (.iaload, 1) := by decide +kernel
theorem dX8_takes_62 : decode cX8_takes 62 = .ok (.iload 7, 2) := by decide +kernel
theorem dX8_takes_64 : decode cX8_takes 64 = .ok (.isub, 1) := by decide +kernel
theorem dX8_takes_65 : decode cX8_takes 65 = .ok (.iastore, 1) := by decide +kernel
theorem dX8_takes_66 : decode cX8_takes 66 = .ok (.aload_n 0, 1) := by decide +kernel
theorem dX8_takes_67 : decode cX8_takes 67 = .ok (.getfield 96, 3) := by decide +kernel
theorem dX8_takes_70 : decode cX8_takes 70 = .ok (.iload 6, 2) := by decide +kernel
theorem dX8_takes_72 : decode cX8_takes 72 = .ok (.dup2, 1) := by decide +kernel
theorem dX8_takes_73 : decode cX8_takes 73 = .ok (.iaload, 1) := by decide +kernel
theorem dX8_takes_74 : decode cX8_takes 74 = .ok (.iload 7, 2) := by decide +kernel
theorem dX8_takes_76 : decode cX8_takes 76 = .ok (.isub, 1) := by decide +kernel
theorem dX8_takes_77 : decode cX8_takes 77 = .ok (.iastore, 1) := by decide +kernel
theorem dX8_takes_78 : decode cX8_takes 78 = .ok (.lload 4, 2) := by decide +kernel
theorem dX8_takes_80 : decode cX8_takes 80 = .ok (.iload 7, 2) := by decide +kernel
theorem dX8_takes_82 : decode cX8_takes 82 = .ok (.i2l, 1) := by decide +kernel
theorem dX8_takes_83 : decode cX8_takes 83 = .ok (.lsub, 1) := by decide +kernel
theorem dX8_takes_84 : decode cX8_takes 84 = .ok (.lstore 4, 2) := by decide +kernel
theorem dX8_takes_86 : decode cX8_takes 86 = .ok (.aload_n 0, 1) := by decide +kernel
theorem dX8_takes_87 : decode cX8_takes 87 = .ok (.getfield 99, 3) := by decide +kernel
theorem dX8_takes_90 : decode cX8_takes 90 = .ok (.iload 6, 2) := by decide +kernel
theorem dX8_takes_92 : decode cX8_takes 92 = .ok (.iaload, 1) := by decide +kernel
theorem dX8_takes_93 : decode cX8_takes 93 = .ok (.ifCond .le 4, 3) := by decide +kernel
theorem dX8_takes_96 : decode cX8_takes 96 = .ok (.return_, 1) := by decide +kernel
theorem dX8_takes_97 : decode cX8_takes 97 = .ok (.aload_n 0, 1) := by decide +kernel
theorem dX8_takes_98 : decode cX8_takes 98 = .ok (.iload_n 1, 1) := by decide +kernel
theorem dX8_takes_99 : decode cX8_takes 99 = .ok (.iconst 0, 1) := by decide +kernel
theorem dX8_takes_100 : decode cX8_takes 100 = .ok (.invokevirtual 165, 3) := by decide +kernel
theorem dX8_takes_103 : decode cX8_takes 103 = .ok (.goto (-100), 3) := by decide +kernel
theorem dX8_takes_106 : decode cX8_takes 106 = .ok (.return_, 1) := by decide +kernel
theorem dX8_comes_0 : decode cX8_comes 0 = .ok (.lload_n 2, 1) := by decide +kernel
theorem dX8_comes_1 : decode cX8_comes 1 = .ok (.lconst 0, 1) := by decide +kernel
theorem dX8_comes_2 : decode cX8_comes 2 = .ok (.lcmp, 1) := by decide +kernel
theorem dX8_comes_3 : decode cX8_comes 3 = .ok (.ifCond .ne 4, 3) := by decide +kernel
theorem dX8_comes_6 : decode cX8_comes 6 = .ok (.return_, 1) := by decide +kernel
theorem dX8_comes_7 : decode cX8_comes 7 = .ok (.bipush 40, 2) := by decide +kernel
theorem dX8_comes_9 : decode cX8_comes 9 = .ok (.iload_n 1, 1) := by decide +kernel
theorem dX8_comes_10 : decode cX8_comes 10 = .ok (.imul, 1) := by decide +kernel
theorem dX8_comes_11 : decode cX8_comes 11 = .ok (.aload_n 0, 1) := by decide +kernel
theorem dX8_comes_12 : decode cX8_comes 12 = .ok (.getfield 69, 3) := by decide +kernel
theorem dX8_comes_15 : decode cX8_comes 15 = .ok (.iload_n 1, 1) := by decide +kernel
theorem dX8_comes_16 : decode cX8_comes 16 = .ok (.iaload, 1) := by decide +kernel
theorem dX8_comes_17 : decode cX8_comes 17 = .ok (.iadd, 1) := by decide +kernel
theorem dX8_comes_18 : decode cX8_comes 18 = .ok (.iconst 1, 1) := by decide +kernel
theorem dX8_comes_19 : decode cX8_comes 19 = .ok (.isub, 1) := by decide +kernel
theorem dX8_comes_20 : decode cX8_comes 20 = .ok (.istore 5, 2) := by decide +kernel
theorem dX8_comes_22 : decode cX8_comes 22 = .ok (.aload_n 0, 1) := by decide +kernel
theorem dX8_comes_23 : decode cX8_comes 23 = .ok (.getfield 69, 3) := by decide +kernel
theorem dX8_comes_26 : decode cX8_comes 26 = .ok (.iload_n 1, 1) := by decide +kernel
theorem dX8_comes_27 : decode cX8_comes 27 = .ok (.iaload, 1) := by decide +kernel
theorem dX8_comes_28 : decode cX8_comes 28 = .ok (.ifCond .eq 26, 3) := by decide +kernel
theorem dX8_comes_31 : decode cX8_comes 31 = .ok (.aload_n 0, 1) := by decide +kernel
theorem dX8_comes_32 : decode cX8_comes 32 = .ok (.getfield 93, 3) := by decide +kernel
theorem dX8_comes_35 : decode cX8_comes 35 = .ok (.iload 5, 2) := by decide +kernel
theorem dX8_comes_37 : decode cX8_comes 37 = .ok (.iaload, 1) := by decide +kernel
theorem dX8_comes_38 : decode cX8_comes 38 = .ok (.iload 4, 2) := by decide +kernel
theorem dX8_comes_40 : decode cX8_comes 40 = .ok (.if_icmp .eq 52, 3) := by decide +kernel
theorem dX8_comes_43 : decode cX8_comes 43 = .ok (.aload_n 0, 1) := by decide +kernel
theorem dX8_comes_44 : decode cX8_comes 44 = .ok (.getfield 69, 3) := by decide +kernel
theorem dX8_comes_47 : decode cX8_comes 47 = .ok (.iload_n 1, 1) := by decide +kernel
theorem dX8_comes_48 : decode cX8_comes 48 = .ok (.iaload, 1) := by decide +kernel
theorem dX8_comes_49 : decode cX8_comes 49 = .ok (.bipush 40, 2) := by decide +kernel
theorem dX8_comes_51 : decode cX8_comes 51 = .ok (.if_icmp .ge 41, 3) := by decide +kernel
theorem dX8_comes_54 : decode cX8_comes 54 = .ok (.iinc 5 1, 3) := by decide +kernel
theorem dX8_comes_57 : decode cX8_comes 57 = .ok (.aload_n 0, 1) := by decide +kernel
theorem dX8_comes_58 : decode cX8_comes 58 = .ok (.getfield 69, 3) := by decide +kernel
theorem dX8_comes_61 : decode cX8_comes 61 = .ok (.iload_n 1, 1) := by decide +kernel
theorem dX8_comes_62 : decode cX8_comes 62 = .ok (.dup2, 1) := by decide +kernel
theorem dX8_comes_63 : decode cX8_comes 63 = .ok (.iaload, 1) := by decide +kernel
theorem dX8_comes_64 : decode cX8_comes 64 = .ok (.iconst 1, 1) := by decide +kernel
theorem dX8_comes_65 : decode cX8_comes 65 = .ok (.iadd, 1) := by decide +kernel
theorem dX8_comes_66 : decode cX8_comes 66 = .ok (.iastore, 1) := by decide +kernel
theorem dX8_comes_67 : decode cX8_comes 67 = .ok (.aload_n 0, 1) := by decide +kernel
theorem dX8_comes_68 : decode cX8_comes 68 = .ok (.getfield 93, 3) := by decide +kernel
theorem dX8_comes_71 : decode cX8_comes 71 = .ok (.iload 5, 2) := by decide +kernel
theorem dX8_comes_73 : decode cX8_comes 73 = .ok (.iload 4, 2) := by decide +kernel
theorem dX8_comes_75 : decode cX8_comes 75 = .ok (.iastore, 1) := by decide +kernel
theorem dX8_comes_76 : decode cX8_comes 76 = .ok (.aload_n 0, 1) := by decide +kernel
theorem dX8_comes_77 : decode cX8_comes 77 = .ok (.getfield 96, 3) := by decide +kernel
theorem dX8_comes_80 : decode cX8_comes 80 = .ok (.iload 5, 2) := by decide +kernel
theorem dX8_comes_82 : decode cX8_comes 82 = .ok (.iconst 0, 1) := by decide +kernel
theorem dX8_comes_83 : decode cX8_comes 83 = .ok (.iastore, 1) := by decide +kernel
theorem dX8_comes_84 : decode cX8_comes 84 = .ok (.aload_n 0, 1) := by decide +kernel
theorem dX8_comes_85 : decode cX8_comes 85 = .ok (.getfield 99, 3) := by decide +kernel
theorem dX8_comes_88 : decode cX8_comes 88 = .ok (.iload 5, 2) := by decide +kernel
theorem dX8_comes_90 : decode cX8_comes 90 = .ok (.iconst 0, 1) := by decide +kernel
theorem dX8_comes_91 : decode cX8_comes 91 = .ok (.iastore, 1) := by decide +kernel
theorem dX8_comes_92 : decode cX8_comes 92 = .ok (.aload_n 0, 1) := by decide +kernel
theorem dX8_comes_93 : decode cX8_comes 93 = .ok (.getfield 96, 3) := by decide +kernel
theorem dX8_comes_96 : decode cX8_comes 96 = .ok (.iload 5, 2) := by decide +kernel
theorem dX8_comes_98 : decode cX8_comes 98 = .ok (.dup2, 1) := by decide +kernel
theorem dX8_comes_99 : decode cX8_comes 99 = .ok (.iaload, 1) := by decide +kernel
theorem dX8_comes_100 : decode cX8_comes 100 = .ok (.lload_n 2, 1) := by decide +kernel
theorem dX8_comes_101 : decode cX8_comes 101 = .ok (.l2i, 1) := by decide +kernel
theorem dX8_comes_102 : decode cX8_comes 102 = .ok (.iadd, 1) := by decide +kernel
theorem dX8_comes_103 : decode cX8_comes 103 = .ok (.iastore, 1) := by decide +kernel
theorem dX8_comes_104 : decode cX8_comes 104 = .ok (.aload_n 0, 1) := by decide +kernel
theorem dX8_comes_105 : decode cX8_comes 105 = .ok (.getfield 99, 3) := by decide +kernel
theorem dX8_comes_108 : decode cX8_comes 108 = .ok (.iload 5, 2) := by decide +kernel
theorem dX8_comes_110 : decode cX8_comes 110 = .ok (.dup2, 1) := by decide +kernel
theorem dX8_comes_111 : decode cX8_comes 111 = .ok (.iaload, 1) := by decide +kernel
theorem dX8_comes_112 : decode cX8_comes 112 = .ok (.lload_n 2, 1) := by decide +kernel
theorem dX8_comes_113 : decode cX8_comes 113 = .ok (.l2i, 1) := by decide +kernel
theorem dX8_comes_114 : decode cX8_comes 114 = .ok (.iadd, 1) := by decide +kernel
theorem dX8_comes_115 : decode cX8_comes 115 = .ok (.iastore, 1) := by decide +kernel
theorem dX8_comes_116 : decode cX8_comes 116 = .ok (.aload_n 0, 1) := by decide +kernel
theorem dX8_comes_117 : decode cX8_comes 117 = .ok (.getfield 102, 3) := by decide +kernel
theorem dX8_comes_120 : decode cX8_comes 120 = .ok (.iload 5, 2) := by decide +kernel
theorem dX8_comes_122 : decode cX8_comes 122 = .ok (.iconst 0, 1) := by decide +kernel
theorem dX8_comes_123 : decode cX8_comes 123 = .ok (.bastore, 1) := by decide +kernel
theorem dX8_comes_124 : decode cX8_comes 124 = .ok (.return_, 1) := by decide +kernel
theorem dX8_least_0 : decode cX8_least 0 = .ok (.lload_n 0, 1) := by decide +kernel
theorem dX8_least_1 : decode cX8_least 1 = .ok (.lload_n 2, 1) := by decide +kernel
theorem dX8_least_2 : decode cX8_least 2 = .ok (.lcmp, 1) := by decide +kernel
theorem dX8_least_3 : decode cX8_least 3 = .ok (.ifCond .ge 7, 3) := by decide +kernel
theorem dX8_least_6 : decode cX8_least 6 = .ok (.lload_n 0, 1) := by decide +kernel
theorem dX8_least_7 : decode cX8_least 7 = .ok (.goto 4, 3) := by decide +kernel
theorem dX8_least_10 : decode cX8_least 10 = .ok (.lload_n 2, 1) := by decide +kernel
theorem dX8_least_11 : decode cX8_least 11 = .ok (.lreturn, 1) := by decide +kernel
theorem dX8_space_0 : decode cX8_space 0 = .ok (.aload_n 0, 1) := by decide +kernel
theorem dX8_space_1 : decode cX8_space 1 = .ok (.getfield 26, 3) := by decide +kernel
theorem dX8_space_4 : decode cX8_space 4 = .ok (.iload_n 2, 1) := by decide +kernel
theorem dX8_space_5 : decode cX8_space 5 = .ok (.iaload, 1) := by decide +kernel
theorem dX8_space_6 : decode cX8_space 6 = .ok (.i2l, 1) := by decide +kernel
theorem dX8_space_7 : decode cX8_space 7 = .ok (.aload_n 0, 1) := by decide +kernel
theorem dX8_space_8 : decode cX8_space 8 = .ok (.bipush 8, 2) := by decide +kernel
theorem dX8_space_10 : decode cX8_space 10 = .ok (.iload_n 1, 1) := by decide +kernel
theorem dX8_space_11 : decode cX8_space 11 = .ok (.imul, 1) := by decide +kernel
theorem dX8_space_12 : decode cX8_space 12 = .ok (.iload_n 2, 1) := by decide +kernel
theorem dX8_space_13 : decode cX8_space 13 = .ok (.iadd, 1) := by decide +kernel
theorem dX8_space_14 : decode cX8_space 14 = .ok (.invokevirtual 169, 3) := by decide +kernel
theorem dX8_space_17 : decode cX8_space 17 = .ok (.lcmp, 1) := by decide +kernel
theorem dX8_space_18 : decode cX8_space 18 = .ok (.ifCond .le 24, 3) := by decide +kernel
theorem dX8_space_21 : decode cX8_space 21 = .ok (.aload_n 0, 1) := by decide +kernel
theorem dX8_space_22 : decode cX8_space 22 = .ok (.getfield 26, 3) := by decide +kernel
theorem dX8_space_25 : decode cX8_space 25 = .ok (.iload_n 2, 1) := by decide +kernel
theorem dX8_space_26 : decode cX8_space 26 = .ok (.iaload, 1) := by decide +kernel
theorem dX8_space_27 : decode cX8_space 27 = .ok (.i2l, 1) := by decide +kernel
theorem dX8_space_28 : decode cX8_space 28 = .ok (.aload_n 0, 1) := by decide +kernel
theorem dX8_space_29 : decode cX8_space 29 = .ok (.bipush 8, 2) := by decide +kernel
theorem dX8_space_31 : decode cX8_space 31 = .ok (.iload_n 1, 1) := by decide +kernel
theorem dX8_space_32 : decode cX8_space 32 = .ok (.imul, 1) := by decide +kernel
theorem dX8_space_33 : decode cX8_space 33 = .ok (.iload_n 2, 1) := by decide +kernel
theorem dX8_space_34 : decode cX8_space 34 = .ok (.iadd, 1) := by decide +kernel
theorem dX8_space_35 : decode cX8_space 35 = .ok (.invokevirtual 169, 3) := by decide +kernel
theorem dX8_space_38 : decode cX8_space 38 = .ok (.lsub, 1) := by decide +kernel
theorem dX8_space_39 : decode cX8_space 39 = .ok (.goto 4, 3) := by decide +kernel
theorem dX8_space_42 : decode cX8_space 42 = .ok (.lconst 0, 1) := by decide +kernel
theorem dX8_space_43 : decode cX8_space 43 = .ok (.lreturn, 1) := by decide +kernel
theorem dX8_price_0 : decode cX8_price 0 = .ok (.ldc2_w 146, 3) := by decide +kernel
theorem dX8_price_3 : decode cX8_price 3 = .ok (.aload_n 0, 1) := by decide +kernel
theorem dX8_price_4 : decode cX8_price 4 = .ok (.getfield 23, 3) := by decide +kernel
theorem dX8_price_7 : decode cX8_price 7 = .ok (.iload_n 2, 1) := by decide +kernel
theorem dX8_price_8 : decode cX8_price 8 = .ok (.iaload, 1) := by decide +kernel
theorem dX8_price_9 : decode cX8_price 9 = .ok (.i2l, 1) := by decide +kernel
theorem dX8_price_10 : decode cX8_price 10 = .ok (.lmul, 1) := by decide +kernel
theorem dX8_price_11 : decode cX8_price 11 = .ok (.aload_n 0, 1) := by decide +kernel
theorem dX8_price_12 : decode cX8_price 12 = .ok (.getfield 66, 3) := by decide +kernel
theorem dX8_price_15 : decode cX8_price 15 = .ok (.iload_n 1, 1) := by decide +kernel
theorem dX8_price_16 : decode cX8_price 16 = .ok (.laload, 1) := by decide +kernel
theorem dX8_price_17 : decode cX8_price 17 = .ok (.aload_n 0, 1) := by decide +kernel
theorem dX8_price_18 : decode cX8_price 18 = .ok (.getfield 23, 3) := by decide +kernel
theorem dX8_price_21 : decode cX8_price 21 = .ok (.iload_n 2, 1) := by decide +kernel
theorem dX8_price_22 : decode cX8_price 22 = .ok (.iaload, 1) := by decide +kernel
theorem dX8_price_23 : decode cX8_price 23 = .ok (.i2l, 1) := by decide +kernel
theorem dX8_price_24 : decode cX8_price 24 = .ok (.ladd, 1) := by decide +kernel
theorem dX8_price_25 : decode cX8_price 25 = .ok (.ldiv, 1) := by decide +kernel
theorem dX8_price_26 : decode cX8_price 26 = .ok (.lreturn, 1) := by decide +kernel
theorem dX8_cartsCome_0 : decode cX8_cartsCome 0 = .ok (.iconst 0, 1) := by decide +kernel
theorem dX8_cartsCome_1 : decode cX8_cartsCome 1 = .ok (.istore_n 2, 1) := by decide +kernel
theorem dX8_cartsCome_2 : decode cX8_cartsCome 2 = .ok (.iconst 0, 1) := by decide +kernel
theorem dX8_cartsCome_3 : decode cX8_cartsCome 3 = .ok (.istore_n 3, 1) := by decide +kernel
theorem dX8_cartsCome_4 : decode cX8_cartsCome 4 = .ok (.iload_n 3, 1) := by decide +kernel
theorem dX8_cartsCome_5 : decode cX8_cartsCome 5 = .ok (.aload_n 0, 1) := by decide +kernel
theorem dX8_cartsCome_6 : decode cX8_cartsCome 6 = .ok (.getfield 54, 3) := by decide +kernel
theorem dX8_cartsCome_9 : decode cX8_cartsCome 9 = .ok (.iload_n 1, 1) := by decide +kernel
theorem dX8_cartsCome_10 : decode cX8_cartsCome 10 = .ok (.iaload, 1) := by decide +kernel
theorem dX8_cartsCome_11 : decode cX8_cartsCome 11 = .ok (.if_icmp .ge 167, 3) := by decide +kernel
theorem dX8_cartsCome_14 : decode cX8_cartsCome 14 = .ok (.bipush 60, 2) := by decide +kernel
theorem dX8_cartsCome_16 : decode cX8_cartsCome 16 = .ok (.iload_n 1, 1) := by decide +kernel
theorem dX8_cartsCome_17 : decode cX8_cartsCome 17 = .ok (.imul, 1) := by decide +kernel
theorem dX8_cartsCome_18 : decode cX8_cartsCome 18 = .ok (.iload_n 3, 1) := by decide +kernel
theorem dX8_cartsCome_19 : decode cX8_cartsCome 19 = .ok (.iadd, 1) := by decide +kernel
theorem dX8_cartsCome_20 : decode cX8_cartsCome 20 = .ok (.istore 4, 2) := by decide +kernel
theorem dX8_cartsCome_22 : decode cX8_cartsCome 22 = .ok (.aload_n 0, 1) := by decide +kernel
theorem dX8_cartsCome_23 : decode cX8_cartsCome 23 = .ok (.getfield 60, 3) := by decide +kernel
theorem dX8_cartsCome_26 : decode cX8_cartsCome 26 = .ok (.iload 4, 2) := by decide +kernel
theorem dX8_cartsCome_28 : decode cX8_cartsCome 28 = .ok (.iaload, 1) := by decide +kernel
theorem dX8_cartsCome_29 : decode cX8_cartsCome 29 = .ok (.aload_n 0, 1) := by decide +kernel
theorem dX8_cartsCome_30 : decode cX8_cartsCome 30 = .ok (.getfield 47, 3) := by decide +kernel
theorem dX8_cartsCome_33 : decode cX8_cartsCome 33 = .ok (.iload_n 1, 1) := by decide +kernel
theorem dX8_cartsCome_34 : decode cX8_cartsCome 34 = .ok (.iaload, 1) := by decide +kernel
theorem dX8_cartsCome_35 : decode cX8_cartsCome 35 = .ok (.if_icmp .le 63, 3) := by decide +kernel
theorem dX8_cartsCome_38 : decode cX8_cartsCome 38 = .ok (.aload_n 0, 1) := by decide +kernel
theorem dX8_cartsCome_39 : decode cX8_cartsCome 39 = .ok (.getfield 57, 3) := by decide +kernel
theorem dX8_cartsCome_42 : decode cX8_cartsCome 42 = .ok (.bipush 60, 2) := by decide +kernel
theorem dX8_cartsCome_44 : decode cX8_cartsCome 44 = .ok (.iload_n 1, 1) := by decide +kernel
theorem dX8_cartsCome_45 : decode cX8_cartsCome 45 = .ok (.imul, 1) := by decide +kernel
theorem dX8_cartsCome_46 : decode cX8_cartsCome 46 = .ok (.iload_n 2, 1) := by decide +kernel
theorem dX8_cartsCome_47 : decode cX8_cartsCome 47 = .ok (.iadd, 1) := by decide +kernel
theorem dX8_cartsCome_48 : decode cX8_cartsCome 48 = .ok (.aload_n 0, 1) := by decide +kernel
theorem dX8_cartsCome_49 : decode cX8_cartsCome 49 = .ok (.getfield 57, 3) := by decide +kernel
theorem dX8_cartsCome_52 : decode cX8_cartsCome 52 = .ok (.iload 4, 2) := by decide +kernel
theorem dX8_cartsCome_54 : decode cX8_cartsCome 54 = .ok (.iaload, 1) := by decide +kernel
theorem dX8_cartsCome_55 : decode cX8_cartsCome 55 = .ok (.iastore, 1) := by decide +kernel
theorem dX8_cartsCome_56 : decode cX8_cartsCome 56 = .ok (.aload_n 0, 1) := by decide +kernel
theorem dX8_cartsCome_57 : decode cX8_cartsCome 57 = .ok (.getfield 60, 3) := by decide +kernel
theorem dX8_cartsCome_60 : decode cX8_cartsCome 60 = .ok (.bipush 60, 2) := by decide +kernel
theorem dX8_cartsCome_62 : decode cX8_cartsCome 62 = .ok (.iload_n 1, 1) := by decide +kernel
theorem dX8_cartsCome_63 : decode cX8_cartsCome 63 = .ok (.imul, 1) := by decide +kernel
theorem dX8_cartsCome_64 : decode cX8_cartsCome 64 = .ok (.iload_n 2, 1) := by decide +kernel
theorem dX8_cartsCome_65 : decode cX8_cartsCome 65 = .ok (.iadd, 1) := by decide +kernel
theorem dX8_cartsCome_66 : decode cX8_cartsCome 66 = .ok (.aload_n 0, 1) := by decide +kernel
theorem dX8_cartsCome_67 : decode cX8_cartsCome 67 = .ok (.getfield 60, 3) := by decide +kernel
theorem dX8_cartsCome_70 : decode cX8_cartsCome 70 = .ok (.iload 4, 2) := by decide +kernel
theorem dX8_cartsCome_72 : decode cX8_cartsCome 72 = .ok (.iaload, 1) := by decide +kernel
theorem dX8_cartsCome_73 : decode cX8_cartsCome 73 = .ok (.iastore, 1) := by decide +kernel
theorem dX8_cartsCome_74 : decode cX8_cartsCome 74 = .ok (.aload_n 0, 1) := by decide +kernel
theorem dX8_cartsCome_75 : decode cX8_cartsCome 75 = .ok (.getfield 63, 3) := by decide +kernel
theorem dX8_cartsCome_78 : decode cX8_cartsCome 78 = .ok (.bipush 60, 2) := by decide +kernel
theorem dX8_cartsCome_80 : decode cX8_cartsCome 80 = .ok (.iload_n 1, 1) := by decide +kernel
theorem dX8_cartsCome_81 : decode cX8_cartsCome 81 = .ok (.imul, 1) := by decide +kernel
theorem dX8_cartsCome_82 : decode cX8_cartsCome 82 = .ok (.iload_n 2, 1) := by decide +kernel
theorem dX8_cartsCome_83 : decode cX8_cartsCome 83 = .ok (.iadd, 1) := by decide +kernel
theorem dX8_cartsCome_84 : decode cX8_cartsCome 84 = .ok (.aload_n 0, 1) := by decide +kernel
theorem dX8_cartsCome_85 : decode cX8_cartsCome 85 = .ok (.getfield 63, 3) := by decide +kernel
theorem dX8_cartsCome_88 : decode cX8_cartsCome 88 = .ok (.iload 4, 2) := by decide +kernel
theorem dX8_cartsCome_90 : decode cX8_cartsCome 90 = .ok (.iaload, 1) := by decide +kernel
theorem dX8_cartsCome_91 : decode cX8_cartsCome 91 = .ok (.iastore, 1) := by decide +kernel
theorem dX8_cartsCome_92 : decode cX8_cartsCome 92 = .ok (.iinc 2 1, 3) := by decide +kernel
theorem dX8_cartsCome_95 : decode cX8_cartsCome 95 = .ok (.goto 77, 3) := by decide +kernel
theorem dX8_cartsCome_98 : decode cX8_cartsCome 98 = .ok (.aload_n 0, 1) := by decide +kernel
theorem dX8_cartsCome_99 : decode cX8_cartsCome 99 = .ok (.getfield 57, 3) := by decide +kernel
theorem dX8_cartsCome_102 : decode cX8_cartsCome 102 = .ok (.iload 4, 2) := by decide +kernel
theorem dX8_cartsCome_104 : decode cX8_cartsCome 104 = .ok (.iaload, 1) := by decide +kernel
theorem dX8_cartsCome_105 : decode cX8_cartsCome 105 = .ok (.istore 5, 2) := by decide +kernel
theorem dX8_cartsCome_107 : decode cX8_cartsCome 107 = .ok (.aload_n 0, 1) := by decide +kernel
theorem dX8_cartsCome_108 : decode cX8_cartsCome 108 = .ok (.getfield 63, 3) := by decide +kernel
theorem dX8_cartsCome_111 : decode cX8_cartsCome 111 = .ok (.iload 4, 2) := by decide +kernel
theorem dX8_cartsCome_113 : decode cX8_cartsCome 113 = .ok (.iaload, 1) := by decide +kernel
theorem dX8_cartsCome_114 : decode cX8_cartsCome 114 = .ok (.i2l, 1) := by decide +kernel
theorem dX8_cartsCome_115 : decode cX8_cartsCome 115 = .ok (.aload_n 0, 1) := by decide +kernel
theorem dX8_cartsCome_116 : decode cX8_cartsCome 116 = .ok (.iload_n 1, 1) := by decide +kernel
theorem dX8_cartsCome_117 : decode cX8_cartsCome 117 = .ok (.iload 5, 2) := by decide +kernel
theorem dX8_cartsCome_119 : decode cX8_cartsCome 119 = .ok (.invokevirtual 173, 3) := by decide +kernel
theorem dX8_cartsCome_122 : decode cX8_cartsCome 122 = .ok (.invokestatic 177, 3) := by decide +kernel
theorem dX8_cartsCome_125 : decode cX8_cartsCome 125 = .ok (.lstore 6, 2) := by decide +kernel
theorem dX8_cartsCome_127 : decode cX8_cartsCome 127 = .ok (.aload_n 0, 1) := by decide +kernel
theorem dX8_cartsCome_128 : decode cX8_cartsCome 128 = .ok (.bipush 8, 2) := by decide +kernel
theorem dX8_cartsCome_130 : decode cX8_cartsCome 130 = .ok (.iload_n 1, 1) := by decide +kernel
theorem dX8_cartsCome_131 : decode cX8_cartsCome 131 = .ok (.imul, 1) := by decide +kernel
theorem dX8_cartsCome_132 : decode cX8_cartsCome 132 = .ok (.iload 5, 2) := by decide +kernel
theorem dX8_cartsCome_134 : decode cX8_cartsCome 134 = .ok (.iadd, 1) := by decide +kernel
theorem dX8_cartsCome_135 : decode cX8_cartsCome 135 = .ok (.lload 6, 2) := by decide +kernel
theorem dX8_cartsCome_137 : decode cX8_cartsCome 137 = .ok (.aload_n 0, 1) := by decide +kernel
theorem dX8_cartsCome_138 : decode cX8_cartsCome 138 = .ok (.getfield 47, 3) := by decide +kernel
theorem dX8_cartsCome_141 : decode cX8_cartsCome 141 = .ok (.iload_n 1, 1) := by decide +kernel
theorem dX8_cartsCome_142 : decode cX8_cartsCome 142 = .ok (.iaload, 1) := by decide +kernel
theorem dX8_cartsCome_143 : decode cX8_cartsCome 143 = .ok (.invokevirtual 181, 3) := by decide +kernel
theorem dX8_cartsCome_146 : decode cX8_cartsCome 146 = .ok (.aload_n 0, 1) := by decide +kernel
theorem dX8_cartsCome_147 : decode cX8_cartsCome 147 = .ok (.getfield 66, 3) := by decide +kernel
theorem dX8_cartsCome_150 : decode cX8_cartsCome 150 = .ok (.bipush 8, 2) := by decide +kernel
theorem dX8_cartsCome_152 : decode cX8_cartsCome 152 = .ok (.iload_n 1, 1) := by decide +kernel
theorem dX8_cartsCome_153 : decode cX8_cartsCome 153 = .ok (.imul, 1) := by decide +kernel
theorem dX8_cartsCome_154 : decode cX8_cartsCome 154 = .ok (.iload 5, 2) := by decide +kernel
theorem dX8_cartsCome_156 : decode cX8_cartsCome 156 = .ok (.iadd, 1) := by decide +kernel
theorem dX8_cartsCome_157 : decode cX8_cartsCome 157 = .ok (.dup2, 1) := by decide +kernel
theorem dX8_cartsCome_158 : decode cX8_cartsCome 158 = .ok (.laload, 1) := by decide +kernel
theorem dX8_cartsCome_159 : decode cX8_cartsCome 159 = .ok (.aload_n 0, 1) := by decide +kernel
theorem dX8_cartsCome_160 : decode cX8_cartsCome 160 = .ok (.getfield 63, 3) := by decide +kernel
theorem dX8_cartsCome_163 : decode cX8_cartsCome 163 = .ok (.iload 4, 2) := by decide +kernel
theorem dX8_cartsCome_165 : decode cX8_cartsCome 165 = .ok (.iaload, 1) := by decide +kernel
theorem dX8_cartsCome_166 : decode cX8_cartsCome 166 = .ok (.i2l, 1) := by decide +kernel
theorem dX8_cartsCome_167 : decode cX8_cartsCome 167 = .ok (.lload 6, 2) := by decide +kernel
theorem dX8_cartsCome_169 : decode cX8_cartsCome 169 = .ok (.lsub, 1) := by decide +kernel
theorem dX8_cartsCome_170 : decode cX8_cartsCome 170 = .ok (.ladd, 1) := by decide +kernel
theorem dX8_cartsCome_171 : decode cX8_cartsCome 171 = .ok (.lastore, 1) := by decide +kernel
theorem dX8_cartsCome_172 : decode cX8_cartsCome 172 = .ok (.iinc 3 1, 3) := by decide +kernel
theorem dX8_cartsCome_175 : decode cX8_cartsCome 175 = .ok (.goto (-171), 3) := by decide +kernel
theorem dX8_cartsCome_178 : decode cX8_cartsCome 178 = .ok (.aload_n 0, 1) := by decide +kernel
theorem dX8_cartsCome_179 : decode cX8_cartsCome 179 = .ok (.getfield 54, 3) := by decide +kernel
theorem dX8_cartsCome_182 : decode cX8_cartsCome 182 = .ok (.iload_n 1, 1) := by decide +kernel
theorem dX8_cartsCome_183 : decode cX8_cartsCome 183 = .ok (.iload_n 2, 1) := by decide +kernel
theorem dX8_cartsCome_184 : decode cX8_cartsCome 184 = .ok (.iastore, 1) := by decide +kernel
theorem dX8_cartsCome_185 : decode cX8_cartsCome 185 = .ok (.return_, 1) := by decide +kernel
theorem dX8_harvests_0 : decode cX8_harvests 0 = .ok (.bipush 8, 2) := by decide +kernel
theorem dX8_harvests_2 : decode cX8_harvests 2 = .ok (.iload_n 1, 1) := by decide +kernel
theorem dX8_harvests_3 : decode cX8_harvests 3 = .ok (.imul, 1) := by decide +kernel
theorem dX8_harvests_4 : decode cX8_harvests 4 = .ok (.iload_n 2, 1) := by decide +kernel
theorem dX8_harvests_5 : decode cX8_harvests 5 = .ok (.iadd, 1) := by decide +kernel
theorem dX8_harvests_6 : decode cX8_harvests 6 = .ok (.istore_n 3, 1) := by decide +kernel
theorem dX8_harvests_7 : decode cX8_harvests 7 = .ok (.iload_n 1, 1) := by decide +kernel
theorem dX8_harvests_8 : decode cX8_harvests 8 = .ok (.ifCond .ne 36, 3) := by decide +kernel
theorem dX8_harvests_11 : decode cX8_harvests 11 = .ok (.aload_n 0, 1) := by decide +kernel
theorem dX8_harvests_12 : decode cX8_harvests 12 = .ok (.getfield 29, 3) := by decide +kernel
theorem dX8_harvests_15 : decode cX8_harvests 15 = .ok (.iload_n 2, 1) := by decide +kernel
theorem dX8_harvests_16 : decode cX8_harvests 16 = .ok (.iaload, 1) := by decide +kernel
theorem dX8_harvests_17 : decode cX8_harvests 17 = .ok (.iconst (-1), 1) := by decide +kernel
theorem dX8_harvests_18 : decode cX8_harvests 18 = .ok (.if_icmp .eq 26, 3) := by decide +kernel
theorem dX8_harvests_21 : decode cX8_harvests 21 = .ok (.aload_n 0, 1) := by decide +kernel
theorem dX8_harvests_22 : decode cX8_harvests 22 = .ok (.getfield 66, 3) := by decide +kernel
theorem dX8_harvests_25 : decode cX8_harvests 25 = .ok (.iload_n 3, 1) := by decide +kernel
theorem dX8_harvests_26 : decode cX8_harvests 26 = .ok (.dup2, 1) := by decide +kernel
theorem dX8_harvests_27 : decode cX8_harvests 27 = .ok (.laload, 1) := by decide +kernel
theorem dX8_harvests_28 : decode cX8_harvests 28 = .ok (.aload_n 0, 1) := by decide +kernel
theorem dX8_harvests_29 : decode cX8_harvests 29 = .ok (.getfield 29, 3) := by decide +kernel
theorem dX8_harvests_32 : decode cX8_harvests 32 = .ok (.iload_n 2, 1) := by decide +kernel
theorem dX8_harvests_33 : decode cX8_harvests 33 = .ok (.iaload, 1) := by decide +kernel
theorem dX8_harvests_34 : decode cX8_harvests 34 = .ok (.i2l, 1) := by decide +kernel
theorem dX8_harvests_35 : decode cX8_harvests 35 = .ok (.ladd, 1) := by decide +kernel
theorem dX8_harvests_36 : decode cX8_harvests 36 = .ok (.lastore, 1) := by decide +kernel
theorem dX8_harvests_37 : decode cX8_harvests 37 = .ok (.aload_n 0, 1) := by decide +kernel
theorem dX8_harvests_38 : decode cX8_harvests 38 = .ok (.getfield 29, 3) := by decide +kernel
theorem dX8_harvests_41 : decode cX8_harvests 41 = .ok (.iload_n 2, 1) := by decide +kernel
theorem dX8_harvests_42 : decode cX8_harvests 42 = .ok (.iconst (-1), 1) := by decide +kernel
theorem dX8_harvests_43 : decode cX8_harvests 43 = .ok (.iastore, 1) := by decide +kernel
theorem dX8_harvests_44 : decode cX8_harvests 44 = .ok (.aload_n 0, 1) := by decide +kernel
theorem dX8_harvests_45 : decode cX8_harvests 45 = .ok (.getfield 47, 3) := by decide +kernel
theorem dX8_harvests_48 : decode cX8_harvests 48 = .ok (.iload_n 1, 1) := by decide +kernel
theorem dX8_harvests_49 : decode cX8_harvests 49 = .ok (.iaload, 1) := by decide +kernel
theorem dX8_harvests_50 : decode cX8_harvests 50 = .ok (.bipush 12, 2) := by decide +kernel
theorem dX8_harvests_52 : decode cX8_harvests 52 = .ok (.irem, 1) := by decide +kernel
theorem dX8_harvests_53 : decode cX8_harvests 53 = .ok (.bipush 9, 2) := by decide +kernel
theorem dX8_harvests_55 : decode cX8_harvests 55 = .ok (.if_icmp .eq 4, 3) := by decide +kernel
theorem dX8_harvests_58 : decode cX8_harvests 58 = .ok (.return_, 1) := by decide +kernel
theorem dX8_harvests_59 : decode cX8_harvests 59 = .ok (.aload_n 0, 1) := by decide +kernel
theorem dX8_harvests_60 : decode cX8_harvests 60 = .ok (.getfield 81, 3) := by decide +kernel
theorem dX8_harvests_63 : decode cX8_harvests 63 = .ok (.iload_n 3, 1) := by decide +kernel
theorem dX8_harvests_64 : decode cX8_harvests 64 = .ok (.laload, 1) := by decide +kernel
theorem dX8_harvests_65 : decode cX8_harvests 65 = .ok (.aload_n 0, 1) := by decide +kernel
theorem dX8_harvests_66 : decode cX8_harvests 66 = .ok (.getfield 66, 3) := by decide +kernel
theorem dX8_harvests_69 : decode cX8_harvests 69 = .ok (.iload_n 3, 1) := by decide +kernel
theorem dX8_harvests_70 : decode cX8_harvests 70 = .ok (.laload, 1) := by decide +kernel
theorem dX8_harvests_71 : decode cX8_harvests 71 = .ok (.aload_n 0, 1) := by decide +kernel
theorem dX8_harvests_72 : decode cX8_harvests 72 = .ok (.iload_n 1, 1) := by decide +kernel
theorem dX8_harvests_73 : decode cX8_harvests 73 = .ok (.iload_n 2, 1) := by decide +kernel
theorem dX8_harvests_74 : decode cX8_harvests 74 = .ok (.invokevirtual 173, 3) := by decide +kernel
theorem dX8_harvests_77 : decode cX8_harvests 77 = .ok (.invokestatic 177, 3) := by decide +kernel
theorem dX8_harvests_80 : decode cX8_harvests 80 = .ok (.invokestatic 177, 3) := by decide +kernel
theorem dX8_harvests_83 : decode cX8_harvests 83 = .ok (.lstore 4, 2) := by decide +kernel
theorem dX8_harvests_85 : decode cX8_harvests 85 = .ok (.aload_n 0, 1) := by decide +kernel
theorem dX8_harvests_86 : decode cX8_harvests 86 = .ok (.getfield 66, 3) := by decide +kernel
theorem dX8_harvests_89 : decode cX8_harvests 89 = .ok (.iload_n 3, 1) := by decide +kernel
theorem dX8_harvests_90 : decode cX8_harvests 90 = .ok (.dup2, 1) := by decide +kernel
theorem dX8_harvests_91 : decode cX8_harvests 91 = .ok (.laload, 1) := by decide +kernel
theorem dX8_harvests_92 : decode cX8_harvests 92 = .ok (.lload 4, 2) := by decide +kernel
theorem dX8_harvests_94 : decode cX8_harvests 94 = .ok (.lsub, 1) := by decide +kernel
theorem dX8_harvests_95 : decode cX8_harvests 95 = .ok (.lastore, 1) := by decide +kernel
theorem dX8_harvests_96 : decode cX8_harvests 96 = .ok (.aload_n 0, 1) := by decide +kernel
theorem dX8_harvests_97 : decode cX8_harvests 97 = .ok (.getfield 81, 3) := by decide +kernel
theorem dX8_harvests_100 : decode cX8_harvests 100 = .ok (.iload_n 3, 1) := by decide +kernel
theorem dX8_harvests_101 : decode cX8_harvests 101 = .ok (.dup2, 1) := by decide +kernel
theorem dX8_harvests_102 : decode cX8_harvests 102 = .ok (.laload, 1) := by decide +kernel
theorem dX8_harvests_103 : decode cX8_harvests 103 = .ok (.lload 4, 2) := by decide +kernel
theorem dX8_harvests_105 : decode cX8_harvests 105 = .ok (.lsub, 1) := by decide +kernel
theorem dX8_harvests_106 : decode cX8_harvests 106 = .ok (.lastore, 1) := by decide +kernel
theorem dX8_harvests_107 : decode cX8_harvests 107 = .ok (.aload_n 0, 1) := by decide +kernel
theorem dX8_harvests_108 : decode cX8_harvests 108 = .ok (.iload_n 3, 1) := by decide +kernel
theorem dX8_harvests_109 : decode cX8_harvests 109 = .ok (.lload 4, 2) := by decide +kernel
theorem dX8_harvests_111 : decode cX8_harvests 111 = .ok (.aload_n 0, 1) := by decide +kernel
theorem dX8_harvests_112 : decode cX8_harvests 112 = .ok (.getfield 47, 3) := by decide +kernel
theorem dX8_harvests_115 : decode cX8_harvests 115 = .ok (.iload_n 1, 1) := by decide +kernel
theorem dX8_harvests_116 : decode cX8_harvests 116 = .ok (.iaload, 1) := by decide +kernel
theorem dX8_harvests_117 : decode cX8_harvests 117 = .ok (.invokevirtual 181, 3) := by decide +kernel
theorem dX8_harvests_120 : decode cX8_harvests 120 = .ok (.return_, 1) := by decide +kernel
theorem dX8_trades_0 : decode cX8_trades 0 = .ok (.bipush 8, 2) := by decide +kernel
theorem dX8_trades_2 : decode cX8_trades 2 = .ok (.iload_n 1, 1) := by decide +kernel
theorem dX8_trades_3 : decode cX8_trades 3 = .ok (.imul, 1) := by decide +kernel
theorem dX8_trades_4 : decode cX8_trades 4 = .ok (.iload_n 2, 1) := by decide +kernel
theorem dX8_trades_5 : decode cX8_trades 5 = .ok (.iadd, 1) := by decide +kernel
theorem dX8_trades_6 : decode cX8_trades 6 = .ok (.istore 4, 2) := by decide +kernel
theorem dX8_trades_8 : decode cX8_trades 8 = .ok (.aload_n 0, 1) := by decide +kernel
theorem dX8_trades_9 : decode cX8_trades 9 = .ok (.iload 4, 2) := by decide +kernel
theorem dX8_trades_11 : decode cX8_trades 11 = .ok (.iload_n 2, 1) := by decide +kernel
theorem dX8_trades_12 : decode cX8_trades 12 = .ok (.invokevirtual 185, 3) := by decide +kernel
theorem dX8_trades_15 : decode cX8_trades 15 = .ok (.lstore 5, 2) := by decide +kernel
theorem dX8_trades_17 : decode cX8_trades 17 = .ok (.lload 5, 2) := by decide +kernel
theorem dX8_trades_19 : decode cX8_trades 19 = .ok (.aload_n 3, 1) := by decide +kernel
theorem dX8_trades_20 : decode cX8_trades 20 = .ok (.iconst 0, 1) := by decide +kernel
theorem dX8_trades_21 : decode cX8_trades 21 = .ok (.iaload, 1) := by decide +kernel
theorem dX8_trades_22 : decode cX8_trades 22 = .ok (.i2l, 1) := by decide +kernel
theorem dX8_trades_23 : decode cX8_trades 23 = .ok (.lcmp, 1) := by decide +kernel
theorem dX8_trades_24 : decode cX8_trades 24 = .ok (.ifCond .gt 111, 3) := by decide +kernel
theorem dX8_trades_27 : decode cX8_trades 27 = .ok (.aload_n 3, 1) := by decide +kernel
theorem dX8_trades_28 : decode cX8_trades 28 = .ok (.iconst 1, 1) := by decide +kernel
theorem dX8_trades_29 : decode cX8_trades 29 = .ok (.iaload, 1) := by decide +kernel
theorem dX8_trades_30 : decode cX8_trades 30 = .ok (.i2l, 1) := by decide +kernel
theorem dX8_trades_31 : decode cX8_trades 31 = .ok (.aload_n 0, 1) := by decide +kernel
theorem dX8_trades_32 : decode cX8_trades 32 = .ok (.iload_n 1, 1) := by decide +kernel
theorem dX8_trades_33 : decode cX8_trades 33 = .ok (.iload_n 2, 1) := by decide +kernel
theorem dX8_trades_34 : decode cX8_trades 34 = .ok (.invokevirtual 173, 3) := by decide +kernel
theorem dX8_trades_37 : decode cX8_trades 37 = .ok (.aload_n 0, 1) := by decide +kernel
theorem dX8_trades_38 : decode cX8_trades 38 = .ok (.getfield 66, 3) := by decide +kernel
theorem dX8_trades_41 : decode cX8_trades 41 = .ok (.iload 4, 2) := by decide +kernel
theorem dX8_trades_43 : decode cX8_trades 43 = .ok (.laload, 1) := by decide +kernel
theorem dX8_trades_44 : decode cX8_trades 44 = .ok (.invokestatic 177, 3) := by decide +kernel
theorem dX8_trades_47 : decode cX8_trades 47 = .ok (.invokestatic 177, 3) := by decide +kernel
theorem dX8_trades_50 : decode cX8_trades 50 = .ok (.lstore 7, 2) := by decide +kernel
theorem dX8_trades_52 : decode cX8_trades 52 = .ok (.lload 5, 2) := by decide +kernel
theorem dX8_trades_54 : decode cX8_trades 54 = .ok (.lconst 0, 1) := by decide +kernel
theorem dX8_trades_55 : decode cX8_trades 55 = .ok (.lcmp, 1) := by decide +kernel
theorem dX8_trades_56 : decode cX8_trades 56 = .ok (.ifCond .ne 8, 3) := by decide +kernel
theorem dX8_trades_59 : decode cX8_trades 59 = .ok (.lload 7, 2) := by decide +kernel
theorem dX8_trades_61 : decode cX8_trades 61 = .ok (.goto 17, 3) := by decide +kernel
theorem dX8_trades_64 : decode cX8_trades 64 = .ok (.lload 7, 2) := by decide +kernel
theorem dX8_trades_66 : decode cX8_trades 66 = .ok (.aload_n 0, 1) := by decide +kernel
theorem dX8_trades_67 : decode cX8_trades 67 = .ok (.getfield 50, 3) := by decide +kernel
theorem dX8_trades_70 : decode cX8_trades 70 = .ok (.iload_n 1, 1) := by decide +kernel
theorem dX8_trades_71 : decode cX8_trades 71 = .ok (.laload, 1) := by decide +kernel
theorem dX8_trades_72 : decode cX8_trades 72 = .ok (.lload 5, 2) := by decide +kernel
theorem dX8_trades_74 : decode cX8_trades 74 = .ok (.ldiv, 1) := by decide +kernel
theorem dX8_trades_75 : decode cX8_trades 75 = .ok (.invokestatic 177, 3) := by decide +kernel
theorem dX8_trades_78 : decode cX8_trades 78 = .ok (.lstore 7, 2) := by decide +kernel
theorem dX8_trades_80 : decode cX8_trades 80 = .ok (.aload_n 0, 1) := by decide +kernel
theorem dX8_trades_81 : decode cX8_trades 81 = .ok (.getfield 50, 3) := by decide +kernel
theorem dX8_trades_84 : decode cX8_trades 84 = .ok (.iload_n 1, 1) := by decide +kernel
theorem dX8_trades_85 : decode cX8_trades 85 = .ok (.dup2, 1) := by decide +kernel
theorem dX8_trades_86 : decode cX8_trades 86 = .ok (.laload, 1) := by decide +kernel
theorem dX8_trades_87 : decode cX8_trades 87 = .ok (.lload 7, 2) := by decide +kernel
theorem dX8_trades_89 : decode cX8_trades 89 = .ok (.lload 5, 2) := by decide +kernel
theorem dX8_trades_91 : decode cX8_trades 91 = .ok (.lmul, 1) := by decide +kernel
theorem dX8_trades_92 : decode cX8_trades 92 = .ok (.lsub, 1) := by decide +kernel
theorem dX8_trades_93 : decode cX8_trades 93 = .ok (.lastore, 1) := by decide +kernel
theorem dX8_trades_94 : decode cX8_trades 94 = .ok (.aload_n 0, 1) := by decide +kernel
theorem dX8_trades_95 : decode cX8_trades 95 = .ok (.getfield 66, 3) := by decide +kernel
theorem dX8_trades_98 : decode cX8_trades 98 = .ok (.iload 4, 2) := by decide +kernel
theorem dX8_trades_100 : decode cX8_trades 100 = .ok (.dup2, 1) := by decide +kernel
theorem dX8_trades_101 : decode cX8_trades 101 = .ok (.laload, 1) := by decide +kernel
theorem dX8_trades_102 : decode cX8_trades 102 = .ok (.lload 7, 2) := by decide +kernel
theorem dX8_trades_104 : decode cX8_trades 104 = .ok (.lsub, 1) := by decide +kernel
theorem dX8_trades_105 : decode cX8_trades 105 = .ok (.lastore, 1) := by decide +kernel
theorem dX8_trades_106 : decode cX8_trades 106 = .ok (.aload_n 0, 1) := by decide +kernel
theorem dX8_trades_107 : decode cX8_trades 107 = .ok (.getfield 84, 3) := by decide +kernel
theorem dX8_trades_110 : decode cX8_trades 110 = .ok (.iload 4, 2) := by decide +kernel
theorem dX8_trades_112 : decode cX8_trades 112 = .ok (.dup2, 1) := by decide +kernel
theorem dX8_trades_113 : decode cX8_trades 113 = .ok (.laload, 1) := by decide +kernel
theorem dX8_trades_114 : decode cX8_trades 114 = .ok (.lload 7, 2) := by decide +kernel
theorem dX8_trades_116 : decode cX8_trades 116 = .ok (.ladd, 1) := by decide +kernel
theorem dX8_trades_117 : decode cX8_trades 117 = .ok (.lastore, 1) := by decide +kernel
theorem dX8_trades_118 : decode cX8_trades 118 = .ok (.aload_n 0, 1) := by decide +kernel
theorem dX8_trades_119 : decode cX8_trades 119 = .ok (.iload 4, 2) := by decide +kernel
theorem dX8_trades_121 : decode cX8_trades 121 = .ok (.lload 7, 2) := by decide +kernel
theorem dX8_trades_123 : decode cX8_trades 123 = .ok (.aload_n 0, 1) := by decide +kernel
theorem dX8_trades_124 : decode cX8_trades 124 = .ok (.getfield 47, 3) := by decide +kernel
theorem dX8_trades_127 : decode cX8_trades 127 = .ok (.iload_n 1, 1) := by decide +kernel
theorem dX8_trades_128 : decode cX8_trades 128 = .ok (.iaload, 1) := by decide +kernel
theorem dX8_trades_129 : decode cX8_trades 129 = .ok (.invokevirtual 181, 3) := by decide +kernel
theorem dX8_trades_132 : decode cX8_trades 132 = .ok (.goto 74, 3) := by decide +kernel
theorem dX8_trades_135 : decode cX8_trades 135 = .ok (.lload 5, 2) := by decide +kernel
theorem dX8_trades_137 : decode cX8_trades 137 = .ok (.aload_n 3, 1) := by decide +kernel
theorem dX8_trades_138 : decode cX8_trades 138 = .ok (.iconst 2, 1) := by decide +kernel
theorem dX8_trades_139 : decode cX8_trades 139 = .ok (.iaload, 1) := by decide +kernel
theorem dX8_trades_140 : decode cX8_trades 140 = .ok (.i2l, 1) := by decide +kernel
theorem dX8_trades_141 : decode cX8_trades 141 = .ok (.lcmp, 1) := by decide +kernel
theorem dX8_trades_142 : decode cX8_trades 142 = .ok (.ifCond .lt 64, 3) := by decide +kernel
theorem dX8_trades_145 : decode cX8_trades 145 = .ok (.aload_n 3, 1) := by decide +kernel
theorem dX8_trades_146 : decode cX8_trades 146 = .ok (.iconst 3, 1) := by decide +kernel
theorem dX8_trades_147 : decode cX8_trades 147 = .ok (.iaload, 1) := by decide +kernel
theorem dX8_trades_148 : decode cX8_trades 148 = .ok (.i2l, 1) := by decide +kernel
theorem dX8_trades_149 : decode cX8_trades 149 = .ok (.aload_n 0, 1) := by decide +kernel
theorem dX8_trades_150 : decode cX8_trades 150 = .ok (.iload 4, 2) := by decide +kernel
theorem dX8_trades_152 : decode cX8_trades 152 = .ok (.invokevirtual 169, 3) := by decide +kernel
theorem dX8_trades_155 : decode cX8_trades 155 = .ok (.invokestatic 177, 3) := by decide +kernel
theorem dX8_trades_158 : decode cX8_trades 158 = .ok (.lstore 7, 2) := by decide +kernel
theorem dX8_trades_160 : decode cX8_trades 160 = .ok (.aload_n 0, 1) := by decide +kernel
theorem dX8_trades_161 : decode cX8_trades 161 = .ok (.iload 4, 2) := by decide +kernel
theorem dX8_trades_163 : decode cX8_trades 163 = .ok (.lload 7, 2) := by decide +kernel
theorem dX8_trades_165 : decode cX8_trades 165 = .ok (.invokevirtual 188, 3) := by decide +kernel
theorem dX8_trades_168 : decode cX8_trades 168 = .ok (.aload_n 0, 1) := by decide +kernel
theorem dX8_trades_169 : decode cX8_trades 169 = .ok (.getfield 50, 3) := by decide +kernel
theorem dX8_trades_172 : decode cX8_trades 172 = .ok (.iload_n 1, 1) := by decide +kernel
theorem dX8_trades_173 : decode cX8_trades 173 = .ok (.dup2, 1) := by decide +kernel
theorem dX8_trades_174 : decode cX8_trades 174 = .ok (.laload, 1) := by decide +kernel
theorem dX8_trades_175 : decode cX8_trades 175 = .ok (.lload 7, 2) := by decide +kernel
theorem dX8_trades_177 : decode cX8_trades 177 = .ok (.lload 5, 2) := by decide +kernel
theorem dX8_trades_179 : decode cX8_trades 179 = .ok (.lmul, 1) := by decide +kernel
theorem dX8_trades_180 : decode cX8_trades 180 = .ok (.ladd, 1) := by decide +kernel
theorem dX8_trades_181 : decode cX8_trades 181 = .ok (.lastore, 1) := by decide +kernel
theorem dX8_trades_182 : decode cX8_trades 182 = .ok (.aload_n 0, 1) := by decide +kernel
theorem dX8_trades_183 : decode cX8_trades 183 = .ok (.getfield 66, 3) := by decide +kernel
theorem dX8_trades_186 : decode cX8_trades 186 = .ok (.iload 4, 2) := by decide +kernel
theorem dX8_trades_188 : decode cX8_trades 188 = .ok (.dup2, 1) := by decide +kernel
theorem dX8_trades_189 : decode cX8_trades 189 = .ok (.laload, 1) := by decide +kernel
theorem dX8_trades_190 : decode cX8_trades 190 = .ok (.lload 7, 2) := by decide +kernel
theorem dX8_trades_192 : decode cX8_trades 192 = .ok (.ladd, 1) := by decide +kernel
theorem dX8_trades_193 : decode cX8_trades 193 = .ok (.lastore, 1) := by decide +kernel
theorem dX8_trades_194 : decode cX8_trades 194 = .ok (.aload_n 0, 1) := by decide +kernel
theorem dX8_trades_195 : decode cX8_trades 195 = .ok (.getfield 87, 3) := by decide +kernel
theorem dX8_trades_198 : decode cX8_trades 198 = .ok (.iload 4, 2) := by decide +kernel
theorem dX8_trades_200 : decode cX8_trades 200 = .ok (.dup2, 1) := by decide +kernel
theorem dX8_trades_201 : decode cX8_trades 201 = .ok (.laload, 1) := by decide +kernel
theorem dX8_trades_202 : decode cX8_trades 202 = .ok (.lload 7, 2) := by decide +kernel
theorem dX8_trades_204 : decode cX8_trades 204 = .ok (.ladd, 1) := by decide +kernel
theorem dX8_trades_205 : decode cX8_trades 205 = .ok (.lastore, 1) := by decide +kernel
theorem dX8_trades_206 : decode cX8_trades 206 = .ok (.return_, 1) := by decide +kernel
theorem dX8_spoils_0 : decode cX8_spoils 0 = .ok (.iconst 0, 1) := by decide +kernel
theorem dX8_spoils_1 : decode cX8_spoils 1 = .ok (.istore 4, 2) := by decide +kernel
theorem dX8_spoils_3 : decode cX8_spoils 3 = .ok (.iload 4, 2) := by decide +kernel
theorem dX8_spoils_5 : decode cX8_spoils 5 = .ok (.aload_n 0, 1) := by decide +kernel
theorem dX8_spoils_6 : decode cX8_spoils 6 = .ok (.getfield 69, 3) := by decide +kernel
theorem dX8_spoils_9 : decode cX8_spoils 9 = .ok (.iload_n 1, 1) := by decide +kernel
theorem dX8_spoils_10 : decode cX8_spoils 10 = .ok (.iaload, 1) := by decide +kernel
theorem dX8_spoils_11 : decode cX8_spoils 11 = .ok (.if_icmp .ge 120, 3) := by decide +kernel
theorem dX8_spoils_14 : decode cX8_spoils 14 = .ok (.bipush 40, 2) := by decide +kernel
theorem dX8_spoils_16 : decode cX8_spoils 16 = .ok (.iload_n 1, 1) := by decide +kernel
theorem dX8_spoils_17 : decode cX8_spoils 17 = .ok (.imul, 1) := by decide +kernel
theorem dX8_spoils_18 : decode cX8_spoils 18 = .ok (.iload 4, 2) := by decide +kernel
theorem dX8_spoils_20 : decode cX8_spoils 20 = .ok (.iadd, 1) := by decide +kernel
theorem dX8_spoils_21 : decode cX8_spoils 21 = .ok (.istore 5, 2) := by decide +kernel
theorem dX8_spoils_23 : decode cX8_spoils 23 = .ok (.iload_n 2, 1) := by decide +kernel
theorem dX8_spoils_24 : decode cX8_spoils 24 = .ok (.aload_n 0, 1) := by decide +kernel
theorem dX8_spoils_25 : decode cX8_spoils 25 = .ok (.getfield 93, 3) := by decide +kernel
theorem dX8_spoils_28 : decode cX8_spoils 28 = .ok (.iload 5, 2) := by decide +kernel
theorem dX8_spoils_30 : decode cX8_spoils 30 = .ok (.iaload, 1) := by decide +kernel
theorem dX8_spoils_31 : decode cX8_spoils 31 = .ok (.isub, 1) := by decide +kernel
theorem dX8_spoils_32 : decode cX8_spoils 32 = .ok (.aload_n 3, 1) := by decide +kernel
theorem dX8_spoils_33 : decode cX8_spoils 33 = .ok (.iconst 5, 1) := by decide +kernel
theorem dX8_spoils_34 : decode cX8_spoils 34 = .ok (.iaload, 1) := by decide +kernel
theorem dX8_spoils_35 : decode cX8_spoils 35 = .ok (.if_icmp .ge 6, 3) := by decide +kernel
theorem dX8_spoils_38 : decode cX8_spoils 38 = .ok (.goto 87, 3) := by decide +kernel
theorem dX8_spoils_41 : decode cX8_spoils 41 = .ok (.aload_n 0, 1) := by decide +kernel
theorem dX8_spoils_42 : decode cX8_spoils 42 = .ok (.getfield 99, 3) := by decide +kernel
theorem dX8_spoils_45 : decode cX8_spoils 45 = .ok (.iload 5, 2) := by decide +kernel
theorem dX8_spoils_47 : decode cX8_spoils 47 = .ok (.iaload, 1) := by decide +kernel
theorem dX8_spoils_48 : decode cX8_spoils 48 = .ok (.i2l, 1) := by decide +kernel
theorem dX8_spoils_49 : decode cX8_spoils 49 = .ok (.aload_n 3, 1) := by decide +kernel
theorem dX8_spoils_50 : decode cX8_spoils 50 = .ok (.bipush 6, 2) := by decide +kernel
theorem dX8_spoils_52 : decode cX8_spoils 52 = .ok (.iaload, 1) := by decide +kernel
theorem dX8_spoils_53 : decode cX8_spoils 53 = .ok (.i2l, 1) := by decide +kernel
theorem dX8_spoils_54 : decode cX8_spoils 54 = .ok (.lmul, 1) := by decide +kernel
theorem dX8_spoils_55 : decode cX8_spoils 55 = .ok (.ldc2_w 192, 3) := by decide +kernel
theorem dX8_spoils_58 : decode cX8_spoils 58 = .ok (.ladd, 1) := by decide +kernel
theorem dX8_spoils_59 : decode cX8_spoils 59 = .ok (.ldc2_w 194, 3) := by decide +kernel
theorem dX8_spoils_62 : decode cX8_spoils 62 = .ok (.ldiv, 1) := by decide +kernel
theorem dX8_spoils_63 : decode cX8_spoils 63 = .ok (.l2i, 1) := by decide +kernel
theorem dX8_spoils_64 : decode cX8_spoils 64 = .ok (.istore 6, 2) := by decide +kernel
theorem dX8_spoils_66 : decode cX8_spoils 66 = .ok (.aload_n 0, 1) := by decide +kernel
theorem dX8_spoils_67 : decode cX8_spoils 67 = .ok (.getfield 99, 3) := by decide +kernel
theorem dX8_spoils_70 : decode cX8_spoils 70 = .ok (.iload 5, 2) := by decide +kernel
theorem dX8_spoils_72 : decode cX8_spoils 72 = .ok (.dup2, 1) := by decide +kernel
theorem dX8_spoils_73 : decode cX8_spoils 73 = .ok (.iaload, 1) := by decide +kernel
theorem dX8_spoils_74 : decode cX8_spoils 74 = .ok (.iload 6, 2) := by decide +kernel
theorem dX8_spoils_76 : decode cX8_spoils 76 = .ok (.isub, 1) := by decide +kernel
theorem dX8_spoils_77 : decode cX8_spoils 77 = .ok (.iastore, 1) := by decide +kernel
theorem dX8_spoils_78 : decode cX8_spoils 78 = .ok (.aload_n 0, 1) := by decide +kernel
theorem dX8_spoils_79 : decode cX8_spoils 79 = .ok (.getfield 96, 3) := by decide +kernel
theorem dX8_spoils_82 : decode cX8_spoils 82 = .ok (.iload 5, 2) := by decide +kernel
theorem dX8_spoils_84 : decode cX8_spoils 84 = .ok (.dup2, 1) := by decide +kernel
theorem dX8_spoils_85 : decode cX8_spoils 85 = .ok (.iaload, 1) := by decide +kernel
theorem dX8_spoils_86 : decode cX8_spoils 86 = .ok (.iload 6, 2) := by decide +kernel
theorem dX8_spoils_88 : decode cX8_spoils 88 = .ok (.isub, 1) := by decide +kernel
theorem dX8_spoils_89 : decode cX8_spoils 89 = .ok (.iastore, 1) := by decide +kernel
theorem dX8_spoils_90 : decode cX8_spoils 90 = .ok (.aload_n 0, 1) := by decide +kernel
theorem dX8_spoils_91 : decode cX8_spoils 91 = .ok (.getfield 78, 3) := by decide +kernel
theorem dX8_spoils_94 : decode cX8_spoils 94 = .ok (.iload_n 1, 1) := by decide +kernel
theorem dX8_spoils_95 : decode cX8_spoils 95 = .ok (.dup2, 1) := by decide +kernel
theorem dX8_spoils_96 : decode cX8_spoils 96 = .ok (.laload, 1) := by decide +kernel
theorem dX8_spoils_97 : decode cX8_spoils 97 = .ok (.iload 6, 2) := by decide +kernel
theorem dX8_spoils_99 : decode cX8_spoils 99 = .ok (.i2l, 1) := by decide +kernel
theorem dX8_spoils_100 : decode cX8_spoils 100 = .ok (.ladd, 1) := by decide +kernel
theorem dX8_spoils_101 : decode cX8_spoils 101 = .ok (.lastore, 1) := by decide +kernel
theorem dX8_spoils_102 : decode cX8_spoils 102 = .ok (.aload_n 0, 1) := by decide +kernel
theorem dX8_spoils_103 : decode cX8_spoils 103 = .ok (.getfield 99, 3) := by decide +kernel
theorem dX8_spoils_106 : decode cX8_spoils 106 = .ok (.iload 5, 2) := by decide +kernel
theorem dX8_spoils_108 : decode cX8_spoils 108 = .ok (.iaload, 1) := by decide +kernel
theorem dX8_spoils_109 : decode cX8_spoils 109 = .ok (.ifCond .le 6, 3) := by decide +kernel
theorem dX8_spoils_112 : decode cX8_spoils 112 = .ok (.goto 13, 3) := by decide +kernel
theorem dX8_spoils_115 : decode cX8_spoils 115 = .ok (.aload_n 0, 1) := by decide +kernel
theorem dX8_spoils_116 : decode cX8_spoils 116 = .ok (.iload_n 1, 1) := by decide +kernel
theorem dX8_spoils_117 : decode cX8_spoils 117 = .ok (.iload 4, 2) := by decide +kernel
theorem dX8_spoils_119 : decode cX8_spoils 119 = .ok (.invokevirtual 165, 3) := by decide +kernel
theorem dX8_spoils_122 : decode cX8_spoils 122 = .ok (.iinc 4 (-1), 3) := by decide +kernel
theorem dX8_spoils_125 : decode cX8_spoils 125 = .ok (.iinc 4 1, 3) := by decide +kernel
theorem dX8_spoils_128 : decode cX8_spoils 128 = .ok (.goto (-125), 3) := by decide +kernel
theorem dX8_spoils_131 : decode cX8_spoils 131 = .ok (.return_, 1) := by decide +kernel
theorem dX8_turns_0 : decode cX8_turns 0 = .ok (.aload_n 0, 1) := by decide +kernel
theorem dX8_turns_1 : decode cX8_turns 1 = .ok (.iload_n 1, 1) := by decide +kernel
theorem dX8_turns_2 : decode cX8_turns 2 = .ok (.invokevirtual 169, 3) := by decide +kernel
theorem dX8_turns_5 : decode cX8_turns 5 = .ok (.iload_n 3, 1) := by decide +kernel
theorem dX8_turns_6 : decode cX8_turns 6 = .ok (.i2l, 1) := by decide +kernel
theorem dX8_turns_7 : decode cX8_turns 7 = .ok (.ladd, 1) := by decide +kernel
theorem dX8_turns_8 : decode cX8_turns 8 = .ok (.lconst 1, 1) := by decide +kernel
theorem dX8_turns_9 : decode cX8_turns 9 = .ok (.lsub, 1) := by decide +kernel
theorem dX8_turns_10 : decode cX8_turns 10 = .ok (.iload_n 3, 1) := by decide +kernel
theorem dX8_turns_11 : decode cX8_turns 11 = .ok (.i2l, 1) := by decide +kernel
theorem dX8_turns_12 : decode cX8_turns 12 = .ok (.ldiv, 1) := by decide +kernel
theorem dX8_turns_13 : decode cX8_turns 13 = .ok (.aload_n 0, 1) := by decide +kernel
theorem dX8_turns_14 : decode cX8_turns 14 = .ok (.getfield 66, 3) := by decide +kernel
theorem dX8_turns_17 : decode cX8_turns 17 = .ok (.iload_n 1, 1) := by decide +kernel
theorem dX8_turns_18 : decode cX8_turns 18 = .ok (.laload, 1) := by decide +kernel
theorem dX8_turns_19 : decode cX8_turns 19 = .ok (.invokestatic 177, 3) := by decide +kernel
theorem dX8_turns_22 : decode cX8_turns 22 = .ok (.lstore 4, 2) := by decide +kernel
theorem dX8_turns_24 : decode cX8_turns 24 = .ok (.aload_n 0, 1) := by decide +kernel
theorem dX8_turns_25 : decode cX8_turns 25 = .ok (.iload_n 1, 1) := by decide +kernel
theorem dX8_turns_26 : decode cX8_turns 26 = .ok (.lload 4, 2) := by decide +kernel
theorem dX8_turns_28 : decode cX8_turns 28 = .ok (.invokevirtual 188, 3) := by decide +kernel
theorem dX8_turns_31 : decode cX8_turns 31 = .ok (.aload_n 0, 1) := by decide +kernel
theorem dX8_turns_32 : decode cX8_turns 32 = .ok (.iload_n 1, 1) := by decide +kernel
theorem dX8_turns_33 : decode cX8_turns 33 = .ok (.lload 4, 2) := by decide +kernel
theorem dX8_turns_35 : decode cX8_turns 35 = .ok (.iload_n 2, 1) := by decide +kernel
theorem dX8_turns_36 : decode cX8_turns 36 = .ok (.invokevirtual 181, 3) := by decide +kernel
theorem dX8_turns_39 : decode cX8_turns 39 = .ok (.return_, 1) := by decide +kernel
theorem dX8_goesBy_0 : decode cX8_goesBy 0 = .ok (.aload_n 0, 1) := by decide +kernel
theorem dX8_goesBy_1 : decode cX8_goesBy 1 = .ok (.getfield 47, 3) := by decide +kernel
theorem dX8_goesBy_4 : decode cX8_goesBy 4 = .ok (.iload_n 1, 1) := by decide +kernel
theorem dX8_goesBy_5 : decode cX8_goesBy 5 = .ok (.dup2, 1) := by decide +kernel
theorem dX8_goesBy_6 : decode cX8_goesBy 6 = .ok (.iaload, 1) := by decide +kernel
theorem dX8_goesBy_7 : decode cX8_goesBy 7 = .ok (.iconst 1, 1) := by decide +kernel
theorem dX8_goesBy_8 : decode cX8_goesBy 8 = .ok (.iadd, 1) := by decide +kernel
theorem dX8_goesBy_9 : decode cX8_goesBy 9 = .ok (.iastore, 1) := by decide +kernel
theorem dX8_goesBy_10 : decode cX8_goesBy 10 = .ok (.aload_n 0, 1) := by decide +kernel
theorem dX8_goesBy_11 : decode cX8_goesBy 11 = .ok (.iload_n 1, 1) := by decide +kernel
theorem dX8_goesBy_12 : decode cX8_goesBy 12 = .ok (.invokevirtual 196, 3) := by decide +kernel
theorem dX8_goesBy_15 : decode cX8_goesBy 15 = .ok (.iconst 0, 1) := by decide +kernel
theorem dX8_goesBy_16 : decode cX8_goesBy 16 = .ok (.istore_n 3, 1) := by decide +kernel
theorem dX8_goesBy_17 : decode cX8_goesBy 17 = .ok (.iload_n 3, 1) := by decide +kernel
theorem dX8_goesBy_18 : decode cX8_goesBy 18 = .ok (.aload_n 0, 1) := by decide +kernel
theorem dX8_goesBy_19 : decode cX8_goesBy 19 = .ok (.getfield 143, 3) := by decide +kernel
theorem dX8_goesBy_22 : decode cX8_goesBy 22 = .ok (.if_icmp .ge 15, 3) := by decide +kernel
theorem dX8_goesBy_25 : decode cX8_goesBy 25 = .ok (.aload_n 0, 1) := by decide +kernel
theorem dX8_goesBy_26 : decode cX8_goesBy 26 = .ok (.iload_n 1, 1) := by decide +kernel
theorem dX8_goesBy_27 : decode cX8_goesBy 27 = .ok (.iload_n 3, 1) := by decide +kernel
theorem dX8_goesBy_28 : decode cX8_goesBy 28 = .ok (.invokevirtual 199, 3) := by decide +kernel
theorem dX8_goesBy_31 : decode cX8_goesBy 31 = .ok (.iinc 3 1, 3) := by decide +kernel
theorem dX8_goesBy_34 : decode cX8_goesBy 34 = .ok (.goto (-17), 3) := by decide +kernel
theorem dX8_goesBy_37 : decode cX8_goesBy 37 = .ok (.iconst 0, 1) := by decide +kernel
theorem dX8_goesBy_38 : decode cX8_goesBy 38 = .ok (.istore_n 3, 1) := by decide +kernel
theorem dX8_goesBy_39 : decode cX8_goesBy 39 = .ok (.iload_n 3, 1) := by decide +kernel
theorem dX8_goesBy_40 : decode cX8_goesBy 40 = .ok (.aload_n 0, 1) := by decide +kernel
theorem dX8_goesBy_41 : decode cX8_goesBy 41 = .ok (.getfield 143, 3) := by decide +kernel
theorem dX8_goesBy_44 : decode cX8_goesBy 44 = .ok (.if_icmp .ge 16, 3) := by decide +kernel
theorem dX8_goesBy_47 : decode cX8_goesBy 47 = .ok (.aload_n 0, 1) := by decide +kernel
theorem dX8_goesBy_48 : decode cX8_goesBy 48 = .ok (.iload_n 1, 1) := by decide +kernel
theorem dX8_goesBy_49 : decode cX8_goesBy 49 = .ok (.iload_n 3, 1) := by decide +kernel
theorem dX8_goesBy_50 : decode cX8_goesBy 50 = .ok (.aload_n 2, 1) := by decide +kernel
theorem dX8_goesBy_51 : decode cX8_goesBy 51 = .ok (.invokevirtual 202, 3) := by decide +kernel
theorem dX8_goesBy_54 : decode cX8_goesBy 54 = .ok (.iinc 3 1, 3) := by decide +kernel
theorem dX8_goesBy_57 : decode cX8_goesBy 57 = .ok (.goto (-18), 3) := by decide +kernel
theorem dX8_goesBy_60 : decode cX8_goesBy 60 = .ok (.iconst 0, 1) := by decide +kernel
theorem dX8_goesBy_61 : decode cX8_goesBy 61 = .ok (.istore_n 3, 1) := by decide +kernel
theorem dX8_goesBy_62 : decode cX8_goesBy 62 = .ok (.iload_n 3, 1) := by decide +kernel
theorem dX8_goesBy_63 : decode cX8_goesBy 63 = .ok (.aload_n 0, 1) := by decide +kernel
theorem dX8_goesBy_64 : decode cX8_goesBy 64 = .ok (.getfield 143, 3) := by decide +kernel
theorem dX8_goesBy_67 : decode cX8_goesBy 67 = .ok (.if_icmp .ge 68, 3) := by decide +kernel
theorem dX8_goesBy_70 : decode cX8_goesBy 70 = .ok (.bipush 8, 2) := by decide +kernel
theorem dX8_goesBy_72 : decode cX8_goesBy 72 = .ok (.iload_n 1, 1) := by decide +kernel
theorem dX8_goesBy_73 : decode cX8_goesBy 73 = .ok (.imul, 1) := by decide +kernel
theorem dX8_goesBy_74 : decode cX8_goesBy 74 = .ok (.iload_n 3, 1) := by decide +kernel
theorem dX8_goesBy_75 : decode cX8_goesBy 75 = .ok (.iadd, 1) := by decide +kernel
theorem dX8_goesBy_76 : decode cX8_goesBy 76 = .ok (.istore 4, 2) := by decide +kernel
theorem dX8_goesBy_78 : decode cX8_goesBy 78 = .ok (.aload_n 0, 1) := by decide +kernel
theorem dX8_goesBy_79 : decode cX8_goesBy 79 = .ok (.getfield 23, 3) := by decide +kernel
theorem dX8_goesBy_82 : decode cX8_goesBy 82 = .ok (.iload_n 3, 1) := by decide +kernel
theorem dX8_goesBy_83 : decode cX8_goesBy 83 = .ok (.iaload, 1) := by decide +kernel
theorem dX8_goesBy_84 : decode cX8_goesBy 84 = .ok (.i2l, 1) := by decide +kernel
theorem dX8_goesBy_85 : decode cX8_goesBy 85 = .ok (.aload_n 0, 1) := by decide +kernel
theorem dX8_goesBy_86 : decode cX8_goesBy 86 = .ok (.getfield 66, 3) := by decide +kernel
theorem dX8_goesBy_89 : decode cX8_goesBy 89 = .ok (.iload 4, 2) := by decide +kernel
theorem dX8_goesBy_91 : decode cX8_goesBy 91 = .ok (.laload, 1) := by decide +kernel
theorem dX8_goesBy_92 : decode cX8_goesBy 92 = .ok (.invokestatic 177, 3) := by decide +kernel
theorem dX8_goesBy_95 : decode cX8_goesBy 95 = .ok (.lstore 5, 2) := by decide +kernel
theorem dX8_goesBy_97 : decode cX8_goesBy 97 = .ok (.aload_n 0, 1) := by decide +kernel
theorem dX8_goesBy_98 : decode cX8_goesBy 98 = .ok (.getfield 66, 3) := by decide +kernel
theorem dX8_goesBy_101 : decode cX8_goesBy 101 = .ok (.iload 4, 2) := by decide +kernel
theorem dX8_goesBy_103 : decode cX8_goesBy 103 = .ok (.dup2, 1) := by decide +kernel
theorem dX8_goesBy_104 : decode cX8_goesBy 104 = .ok (.laload, 1) := by decide +kernel
theorem dX8_goesBy_105 : decode cX8_goesBy 105 = .ok (.lload 5, 2) := by decide +kernel
theorem dX8_goesBy_107 : decode cX8_goesBy 107 = .ok (.lsub, 1) := by decide +kernel
theorem dX8_goesBy_108 : decode cX8_goesBy 108 = .ok (.lastore, 1) := by decide +kernel
theorem dX8_goesBy_109 : decode cX8_goesBy 109 = .ok (.aload_n 0, 1) := by decide +kernel
theorem dX8_goesBy_110 : decode cX8_goesBy 110 = .ok (.getfield 75, 3) := by decide +kernel
theorem dX8_goesBy_113 : decode cX8_goesBy 113 = .ok (.iload 4, 2) := by decide +kernel
theorem dX8_goesBy_115 : decode cX8_goesBy 115 = .ok (.dup2, 1) := by decide +kernel
theorem dX8_goesBy_116 : decode cX8_goesBy 116 = .ok (.laload, 1) := by decide +kernel
theorem dX8_goesBy_117 : decode cX8_goesBy 117 = .ok (.aload_n 0, 1) := by decide +kernel
theorem dX8_goesBy_118 : decode cX8_goesBy 118 = .ok (.getfield 23, 3) := by decide +kernel
theorem dX8_goesBy_121 : decode cX8_goesBy 121 = .ok (.iload_n 3, 1) := by decide +kernel
theorem dX8_goesBy_122 : decode cX8_goesBy 122 = .ok (.iaload, 1) := by decide +kernel
theorem dX8_goesBy_123 : decode cX8_goesBy 123 = .ok (.i2l, 1) := by decide +kernel
theorem dX8_goesBy_124 : decode cX8_goesBy 124 = .ok (.lload 5, 2) := by decide +kernel
theorem dX8_goesBy_126 : decode cX8_goesBy 126 = .ok (.lsub, 1) := by decide +kernel
theorem dX8_goesBy_127 : decode cX8_goesBy 127 = .ok (.ladd, 1) := by decide +kernel
theorem dX8_goesBy_128 : decode cX8_goesBy 128 = .ok (.lastore, 1) := by decide +kernel
theorem dX8_goesBy_129 : decode cX8_goesBy 129 = .ok (.iinc 3 1, 3) := by decide +kernel
theorem dX8_goesBy_132 : decode cX8_goesBy 132 = .ok (.goto (-70), 3) := by decide +kernel
theorem dX8_goesBy_135 : decode cX8_goesBy 135 = .ok (.iconst 0, 1) := by decide +kernel
theorem dX8_goesBy_136 : decode cX8_goesBy 136 = .ok (.istore_n 3, 1) := by decide +kernel
theorem dX8_goesBy_137 : decode cX8_goesBy 137 = .ok (.iload_n 3, 1) := by decide +kernel
theorem dX8_goesBy_138 : decode cX8_goesBy 138 = .ok (.aload_n 0, 1) := by decide +kernel
theorem dX8_goesBy_139 : decode cX8_goesBy 139 = .ok (.getfield 143, 3) := by decide +kernel
theorem dX8_goesBy_142 : decode cX8_goesBy 142 = .ok (.if_icmp .ge 26, 3) := by decide +kernel
theorem dX8_goesBy_145 : decode cX8_goesBy 145 = .ok (.aload_n 0, 1) := by decide +kernel
theorem dX8_goesBy_146 : decode cX8_goesBy 146 = .ok (.bipush 8, 2) := by decide +kernel
theorem dX8_goesBy_148 : decode cX8_goesBy 148 = .ok (.iload_n 1, 1) := by decide +kernel
theorem dX8_goesBy_149 : decode cX8_goesBy 149 = .ok (.imul, 1) := by decide +kernel
theorem dX8_goesBy_150 : decode cX8_goesBy 150 = .ok (.iload_n 3, 1) := by decide +kernel
theorem dX8_goesBy_151 : decode cX8_goesBy 151 = .ok (.iadd, 1) := by decide +kernel
theorem dX8_goesBy_152 : decode cX8_goesBy 152 = .ok (.aload_n 0, 1) := by decide +kernel
theorem dX8_goesBy_153 : decode cX8_goesBy 153 = .ok (.getfield 47, 3) := by decide +kernel
theorem dX8_goesBy_156 : decode cX8_goesBy 156 = .ok (.iload_n 1, 1) := by decide +kernel
theorem dX8_goesBy_157 : decode cX8_goesBy 157 = .ok (.iaload, 1) := by decide +kernel
theorem dX8_goesBy_158 : decode cX8_goesBy 158 = .ok (.aload_n 2, 1) := by decide +kernel
theorem dX8_goesBy_159 : decode cX8_goesBy 159 = .ok (.invokevirtual 206, 3) := by decide +kernel
theorem dX8_goesBy_162 : decode cX8_goesBy 162 = .ok (.iinc 3 1, 3) := by decide +kernel
theorem dX8_goesBy_165 : decode cX8_goesBy 165 = .ok (.goto (-28), 3) := by decide +kernel
theorem dX8_goesBy_168 : decode cX8_goesBy 168 = .ok (.iconst 0, 1) := by decide +kernel
theorem dX8_goesBy_169 : decode cX8_goesBy 169 = .ok (.istore_n 3, 1) := by decide +kernel
theorem dX8_goesBy_170 : decode cX8_goesBy 170 = .ok (.iload_n 3, 1) := by decide +kernel
theorem dX8_goesBy_171 : decode cX8_goesBy 171 = .ok (.aload_n 0, 1) := by decide +kernel
theorem dX8_goesBy_172 : decode cX8_goesBy 172 = .ok (.getfield 143, 3) := by decide +kernel
theorem dX8_goesBy_175 : decode cX8_goesBy 175 = .ok (.if_icmp .ge 48, 3) := by decide +kernel
theorem dX8_goesBy_178 : decode cX8_goesBy 178 = .ok (.aload_n 2, 1) := by decide +kernel
theorem dX8_goesBy_179 : decode cX8_goesBy 179 = .ok (.bipush 7, 2) := by decide +kernel
theorem dX8_goesBy_181 : decode cX8_goesBy 181 = .ok (.iaload, 1) := by decide +kernel
theorem dX8_goesBy_182 : decode cX8_goesBy 182 = .ok (.ifCond .le 41, 3) := by decide +kernel
theorem dX8_goesBy_185 : decode cX8_goesBy 185 = .ok (.aload_n 0, 1) := by decide +kernel
theorem dX8_goesBy_186 : decode cX8_goesBy 186 = .ok (.getfield 47, 3) := by decide +kernel
theorem dX8_goesBy_189 : decode cX8_goesBy 189 = .ok (.iload_n 1, 1) := by decide +kernel
theorem dX8_goesBy_190 : decode cX8_goesBy 190 = .ok (.iaload, 1) := by decide +kernel
theorem dX8_goesBy_191 : decode cX8_goesBy 191 = .ok (.bipush 12, 2) := by decide +kernel
theorem dX8_goesBy_193 : decode cX8_goesBy 193 = .ok (.irem, 1) := by decide +kernel
theorem dX8_goesBy_194 : decode cX8_goesBy 194 = .ok (.ifCond .ne 29, 3) := by decide +kernel
theorem dX8_goesBy_197 : decode cX8_goesBy 197 = .ok (.aload_n 0, 1) := by decide +kernel
theorem dX8_goesBy_198 : decode cX8_goesBy 198 = .ok (.bipush 8, 2) := by decide +kernel
theorem dX8_goesBy_200 : decode cX8_goesBy 200 = .ok (.iload_n 1, 1) := by decide +kernel
theorem dX8_goesBy_201 : decode cX8_goesBy 201 = .ok (.imul, 1) := by decide +kernel
theorem dX8_goesBy_202 : decode cX8_goesBy 202 = .ok (.iload_n 3, 1) := by decide +kernel
theorem dX8_goesBy_203 : decode cX8_goesBy 203 = .ok (.iadd, 1) := by decide +kernel
theorem dX8_goesBy_204 : decode cX8_goesBy 204 = .ok (.aload_n 0, 1) := by decide +kernel
theorem dX8_goesBy_205 : decode cX8_goesBy 205 = .ok (.getfield 47, 3) := by decide +kernel
theorem dX8_goesBy_208 : decode cX8_goesBy 208 = .ok (.iload_n 1, 1) := by decide +kernel
theorem dX8_goesBy_209 : decode cX8_goesBy 209 = .ok (.iaload, 1) := by decide +kernel
theorem dX8_goesBy_210 : decode cX8_goesBy 210 = .ok (.aload_n 2, 1) := by decide +kernel
theorem dX8_goesBy_211 : decode cX8_goesBy 211 = .ok (.bipush 7, 2) := by decide +kernel
theorem dX8_goesBy_213 : decode cX8_goesBy 213 = .ok (.iaload, 1) := by decide +kernel
theorem dX8_goesBy_214 : decode cX8_goesBy 214 = .ok (.invokevirtual 209, 3) := by decide +kernel
theorem dX8_goesBy_217 : decode cX8_goesBy 217 = .ok (.iinc 3 1, 3) := by decide +kernel
theorem dX8_goesBy_220 : decode cX8_goesBy 220 = .ok (.goto (-50), 3) := by decide +kernel
theorem dX8_goesBy_223 : decode cX8_goesBy 223 = .ok (.return_, 1) := by decide +kernel
theorem dX8_step_0 : decode cX8_step 0 = .ok (.iload_n 1, 1) := by decide +kernel
theorem dX8_step_1 : decode cX8_step 1 = .ok (.i2l, 1) := by decide +kernel
theorem dX8_step_2 : decode cX8_step 2 = .ok (.lconst 1, 1) := by decide +kernel
theorem dX8_step_3 : decode cX8_step 3 = .ok (.ldc2_w 213, 3) := by decide +kernel
theorem dX8_step_6 : decode cX8_step 6 = .ok (.invokestatic 120, 3) := by decide +kernel
theorem dX8_step_9 : decode cX8_step 9 = .ok (.ifCond .eq 17, 3) := by decide +kernel
theorem dX8_step_12 : decode cX8_step 12 = .ok (.aload_n 0, 1) := by decide +kernel
theorem dX8_step_13 : decode cX8_step 13 = .ok (.getfield 47, 3) := by decide +kernel
theorem dX8_step_16 : decode cX8_step 16 = .ok (.iconst 0, 1) := by decide +kernel
theorem dX8_step_17 : decode cX8_step 17 = .ok (.iaload, 1) := by decide +kernel
theorem dX8_step_18 : decode cX8_step 18 = .ok (.iload_n 1, 1) := by decide +kernel
theorem dX8_step_19 : decode cX8_step 19 = .ok (.iadd, 1) := by decide +kernel
theorem dX8_step_20 : decode cX8_step 20 = .ok (.sipush 2000, 3) := by decide +kernel
theorem dX8_step_23 : decode cX8_step 23 = .ok (.if_icmp .le 5, 3) := by decide +kernel
theorem dX8_step_26 : decode cX8_step 26 = .ok (.iconst (-1), 1) := by decide +kernel
theorem dX8_step_27 : decode cX8_step 27 = .ok (.ireturn, 1) := by decide +kernel
theorem dX8_step_28 : decode cX8_step 28 = .ok (.iconst 0, 1) := by decide +kernel
theorem dX8_step_29 : decode cX8_step 29 = .ok (.istore_n 2, 1) := by decide +kernel
theorem dX8_step_30 : decode cX8_step 30 = .ok (.iload_n 2, 1) := by decide +kernel
theorem dX8_step_31 : decode cX8_step 31 = .ok (.bipush 8, 2) := by decide +kernel
theorem dX8_step_33 : decode cX8_step 33 = .ok (.if_icmp .ge 21, 3) := by decide +kernel
theorem dX8_step_36 : decode cX8_step 36 = .ok (.aload_n 0, 1) := by decide +kernel
theorem dX8_step_37 : decode cX8_step 37 = .ok (.getfield 13, 3) := by decide +kernel
theorem dX8_step_40 : decode cX8_step 40 = .ok (.iload_n 2, 1) := by decide +kernel
theorem dX8_step_41 : decode cX8_step 41 = .ok (.aload_n 0, 1) := by decide +kernel
theorem dX8_step_42 : decode cX8_step 42 = .ok (.getfield 17, 3) := by decide +kernel
theorem dX8_step_45 : decode cX8_step 45 = .ok (.iload_n 2, 1) := by decide +kernel
theorem dX8_step_46 : decode cX8_step 46 = .ok (.iaload, 1) := by decide +kernel
theorem dX8_step_47 : decode cX8_step 47 = .ok (.iastore, 1) := by decide +kernel
theorem dX8_step_48 : decode cX8_step 48 = .ok (.iinc 2 1, 3) := by decide +kernel
theorem dX8_step_51 : decode cX8_step 51 = .ok (.goto (-21), 3) := by decide +kernel
theorem dX8_step_54 : decode cX8_step 54 = .ok (.iconst 0, 1) := by decide +kernel
theorem dX8_step_55 : decode cX8_step 55 = .ok (.istore_n 2, 1) := by decide +kernel
theorem dX8_step_56 : decode cX8_step 56 = .ok (.iload_n 2, 1) := by decide +kernel
theorem dX8_step_57 : decode cX8_step 57 = .ok (.iload_n 1, 1) := by decide +kernel
theorem dX8_step_58 : decode cX8_step 58 = .ok (.if_icmp .ge 18, 3) := by decide +kernel
theorem dX8_step_61 : decode cX8_step 61 = .ok (.aload_n 0, 1) := by decide +kernel
theorem dX8_step_62 : decode cX8_step 62 = .ok (.iconst 0, 1) := by decide +kernel
theorem dX8_step_63 : decode cX8_step 63 = .ok (.aload_n 0, 1) := by decide +kernel
theorem dX8_step_64 : decode cX8_step 64 = .ok (.getfield 13, 3) := by decide +kernel
theorem dX8_step_67 : decode cX8_step 67 = .ok (.invokevirtual 215, 3) := by decide +kernel
theorem dX8_step_70 : decode cX8_step 70 = .ok (.iinc 2 1, 3) := by decide +kernel
theorem dX8_step_73 : decode cX8_step 73 = .ok (.goto (-17), 3) := by decide +kernel
theorem dX8_step_76 : decode cX8_step 76 = .ok (.iconst 0, 1) := by decide +kernel
theorem dX8_step_77 : decode cX8_step 77 = .ok (.istore_n 2, 1) := by decide +kernel
theorem dX8_step_78 : decode cX8_step 78 = .ok (.iload_n 2, 1) := by decide +kernel
theorem dX8_step_79 : decode cX8_step 79 = .ok (.aload_n 0, 1) := by decide +kernel
theorem dX8_step_80 : decode cX8_step 80 = .ok (.getfield 152, 3) := by decide +kernel
theorem dX8_step_83 : decode cX8_step 83 = .ok (.if_icmp .ge 16, 3) := by decide +kernel
theorem dX8_step_86 : decode cX8_step 86 = .ok (.aload_n 0, 1) := by decide +kernel
theorem dX8_step_87 : decode cX8_step 87 = .ok (.getfield 44, 3) := by decide +kernel
theorem dX8_step_90 : decode cX8_step 90 = .ok (.iload_n 2, 1) := by decide +kernel
theorem dX8_step_91 : decode cX8_step 91 = .ok (.iconst 0, 1) := by decide +kernel
theorem dX8_step_92 : decode cX8_step 92 = .ok (.iastore, 1) := by decide +kernel
theorem dX8_step_93 : decode cX8_step 93 = .ok (.iinc 2 1, 3) := by decide +kernel
theorem dX8_step_96 : decode cX8_step 96 = .ok (.goto (-18), 3) := by decide +kernel
theorem dX8_step_99 : decode cX8_step 99 = .ok (.aload_n 0, 1) := by decide +kernel
theorem dX8_step_100 : decode cX8_step 100 = .ok (.getfield 47, 3) := by decide +kernel
theorem dX8_step_103 : decode cX8_step 103 = .ok (.iconst 0, 1) := by decide +kernel
theorem dX8_step_104 : decode cX8_step 104 = .ok (.iaload, 1) := by decide +kernel
theorem dX8_step_105 : decode cX8_step 105 = .ok (.ireturn, 1) := by decide +kernel
theorem dX8_begins_0 : decode cX8_begins 0 = .ok (.aload_n 0, 1) := by decide +kernel
theorem dX8_begins_1 : decode cX8_begins 1 = .ok (.getfield 32, 3) := by decide +kernel
theorem dX8_begins_4 : decode cX8_begins 4 = .ok (.iload_n 1, 1) := by decide +kernel
theorem dX8_begins_5 : decode cX8_begins 5 = .ok (.iaload, 1) := by decide +kernel
theorem dX8_begins_6 : decode cX8_begins 6 = .ok (.iload_n 2, 1) := by decide +kernel
theorem dX8_begins_7 : decode cX8_begins 7 = .ok (.if_icmp .eq 13, 3) := by decide +kernel
theorem dX8_begins_10 : decode cX8_begins 10 = .ok (.aload_n 0, 1) := by decide +kernel
theorem dX8_begins_11 : decode cX8_begins 11 = .ok (.getfield 35, 3) := by decide +kernel
theorem dX8_begins_14 : decode cX8_begins 14 = .ok (.iload_n 1, 1) := by decide +kernel
theorem dX8_begins_15 : decode cX8_begins 15 = .ok (.iaload, 1) := by decide +kernel
theorem dX8_begins_16 : decode cX8_begins 16 = .ok (.iload_n 2, 1) := by decide +kernel
theorem dX8_begins_17 : decode cX8_begins 17 = .ok (.if_icmp .ne 7, 3) := by decide +kernel
theorem dX8_begins_20 : decode cX8_begins 20 = .ok (.iconst 1, 1) := by decide +kernel
theorem dX8_begins_21 : decode cX8_begins 21 = .ok (.goto 4, 3) := by decide +kernel
theorem dX8_begins_24 : decode cX8_begins 24 = .ok (.iconst 0, 1) := by decide +kernel
theorem dX8_begins_25 : decode cX8_begins 25 = .ok (.ireturn, 1) := by decide +kernel
theorem dX8_sends_0 : decode cX8_sends 0 = .ok (.aload_n 0, 1) := by decide +kernel
theorem dX8_sends_1 : decode cX8_sends 1 = .ok (.bipush 8, 2) := by decide +kernel
theorem dX8_sends_3 : decode cX8_sends 3 = .ok (.iload_n 1, 1) := by decide +kernel
theorem dX8_sends_4 : decode cX8_sends 4 = .ok (.imul, 1) := by decide +kernel
theorem dX8_sends_5 : decode cX8_sends 5 = .ok (.iload_n 2, 1) := by decide +kernel
theorem dX8_sends_6 : decode cX8_sends 6 = .ok (.iadd, 1) := by decide +kernel
theorem dX8_sends_7 : decode cX8_sends 7 = .ok (.iload 4, 2) := by decide +kernel
theorem dX8_sends_9 : decode cX8_sends 9 = .ok (.i2l, 1) := by decide +kernel
theorem dX8_sends_10 : decode cX8_sends 10 = .ok (.invokevirtual 188, 3) := by decide +kernel
theorem dX8_sends_13 : decode cX8_sends 13 = .ok (.bipush 60, 2) := by decide +kernel
theorem dX8_sends_15 : decode cX8_sends 15 = .ok (.iload_n 1, 1) := by decide +kernel
theorem dX8_sends_16 : decode cX8_sends 16 = .ok (.imul, 1) := by decide +kernel
theorem dX8_sends_17 : decode cX8_sends 17 = .ok (.aload_n 0, 1) := by decide +kernel
theorem dX8_sends_18 : decode cX8_sends 18 = .ok (.getfield 54, 3) := by decide +kernel
theorem dX8_sends_21 : decode cX8_sends 21 = .ok (.iload_n 1, 1) := by decide +kernel
theorem dX8_sends_22 : decode cX8_sends 22 = .ok (.iaload, 1) := by decide +kernel
theorem dX8_sends_23 : decode cX8_sends 23 = .ok (.iadd, 1) := by decide +kernel
theorem dX8_sends_24 : decode cX8_sends 24 = .ok (.istore 5, 2) := by decide +kernel
theorem dX8_sends_26 : decode cX8_sends 26 = .ok (.aload_n 0, 1) := by decide +kernel
theorem dX8_sends_27 : decode cX8_sends 27 = .ok (.getfield 57, 3) := by decide +kernel
theorem dX8_sends_30 : decode cX8_sends 30 = .ok (.iload 5, 2) := by decide +kernel
theorem dX8_sends_32 : decode cX8_sends 32 = .ok (.aload_n 0, 1) := by decide +kernel
theorem dX8_sends_33 : decode cX8_sends 33 = .ok (.getfield 32, 3) := by decide +kernel
theorem dX8_sends_36 : decode cX8_sends 36 = .ok (.iload_n 3, 1) := by decide +kernel
theorem dX8_sends_37 : decode cX8_sends 37 = .ok (.iaload, 1) := by decide +kernel
theorem dX8_sends_38 : decode cX8_sends 38 = .ok (.iload_n 2, 1) := by decide +kernel
theorem dX8_sends_39 : decode cX8_sends 39 = .ok (.if_icmp .ne 12, 3) := by decide +kernel
theorem dX8_sends_42 : decode cX8_sends 42 = .ok (.aload_n 0, 1) := by decide +kernel
theorem dX8_sends_43 : decode cX8_sends 43 = .ok (.getfield 35, 3) := by decide +kernel
theorem dX8_sends_46 : decode cX8_sends 46 = .ok (.iload_n 3, 1) := by decide +kernel
theorem dX8_sends_47 : decode cX8_sends 47 = .ok (.iaload, 1) := by decide +kernel
theorem dX8_sends_48 : decode cX8_sends 48 = .ok (.goto 9, 3) := by decide +kernel
theorem dX8_sends_51 : decode cX8_sends 51 = .ok (.aload_n 0, 1) := by decide +kernel
theorem dX8_sends_52 : decode cX8_sends 52 = .ok (.getfield 32, 3) := by decide +kernel
theorem dX8_sends_55 : decode cX8_sends 55 = .ok (.iload_n 3, 1) := by decide +kernel
theorem dX8_sends_56 : decode cX8_sends 56 = .ok (.iaload, 1) := by decide +kernel
theorem dX8_sends_57 : decode cX8_sends 57 = .ok (.iastore, 1) := by decide +kernel
theorem dX8_sends_58 : decode cX8_sends 58 = .ok (.aload_n 0, 1) := by decide +kernel
theorem dX8_sends_59 : decode cX8_sends 59 = .ok (.getfield 60, 3) := by decide +kernel
theorem dX8_sends_62 : decode cX8_sends 62 = .ok (.iload 5, 2) := by decide +kernel
theorem dX8_sends_64 : decode cX8_sends 64 = .ok (.aload_n 0, 1) := by decide +kernel
theorem dX8_sends_65 : decode cX8_sends 65 = .ok (.getfield 47, 3) := by decide +kernel
theorem dX8_sends_68 : decode cX8_sends 68 = .ok (.iload_n 1, 1) := by decide +kernel
theorem dX8_sends_69 : decode cX8_sends 69 = .ok (.iaload, 1) := by decide +kernel
theorem dX8_sends_70 : decode cX8_sends 70 = .ok (.aload_n 0, 1) := by decide +kernel
theorem dX8_sends_71 : decode cX8_sends 71 = .ok (.getfield 38, 3) := by decide +kernel
theorem dX8_sends_74 : decode cX8_sends 74 = .ok (.iload_n 3, 1) := by decide +kernel
theorem dX8_sends_75 : decode cX8_sends 75 = .ok (.iaload, 1) := by decide +kernel
theorem dX8_sends_76 : decode cX8_sends 76 = .ok (.iadd, 1) := by decide +kernel
theorem dX8_sends_77 : decode cX8_sends 77 = .ok (.iastore, 1) := by decide +kernel
theorem dX8_sends_78 : decode cX8_sends 78 = .ok (.aload_n 0, 1) := by decide +kernel
theorem dX8_sends_79 : decode cX8_sends 79 = .ok (.getfield 63, 3) := by decide +kernel
theorem dX8_sends_82 : decode cX8_sends 82 = .ok (.iload 5, 2) := by decide +kernel
theorem dX8_sends_84 : decode cX8_sends 84 = .ok (.iload 4, 2) := by decide +kernel
theorem dX8_sends_86 : decode cX8_sends 86 = .ok (.iastore, 1) := by decide +kernel
theorem dX8_sends_87 : decode cX8_sends 87 = .ok (.aload_n 0, 1) := by decide +kernel
theorem dX8_sends_88 : decode cX8_sends 88 = .ok (.getfield 54, 3) := by decide +kernel
theorem dX8_sends_91 : decode cX8_sends 91 = .ok (.iload_n 1, 1) := by decide +kernel
theorem dX8_sends_92 : decode cX8_sends 92 = .ok (.dup2, 1) := by decide +kernel
theorem dX8_sends_93 : decode cX8_sends 93 = .ok (.iaload, 1) := by decide +kernel
theorem dX8_sends_94 : decode cX8_sends 94 = .ok (.iconst 1, 1) := by decide +kernel
theorem dX8_sends_95 : decode cX8_sends 95 = .ok (.iadd, 1) := by decide +kernel
theorem dX8_sends_96 : decode cX8_sends 96 = .ok (.iastore, 1) := by decide +kernel
theorem dX8_sends_97 : decode cX8_sends 97 = .ok (.return_, 1) := by decide +kernel
theorem dX8_move_0 : decode cX8_move 0 = .ok (.aload_n 0, 1) := by decide +kernel
theorem dX8_move_1 : decode cX8_move 1 = .ok (.iload_n 1, 1) := by decide +kernel
theorem dX8_move_2 : decode cX8_move 2 = .ok (.invokevirtual 155, 3) := by decide +kernel
theorem dX8_move_5 : decode cX8_move 5 = .ok (.ifCond .eq 72, 3) := by decide +kernel
theorem dX8_move_8 : decode cX8_move 8 = .ok (.iload_n 2, 1) := by decide +kernel
theorem dX8_move_9 : decode cX8_move 9 = .ok (.i2l, 1) := by decide +kernel
theorem dX8_move_10 : decode cX8_move 10 = .ok (.lconst 0, 1) := by decide +kernel
theorem dX8_move_11 : decode cX8_move 11 = .ok (.aload_n 0, 1) := by decide +kernel
theorem dX8_move_12 : decode cX8_move 12 = .ok (.getfield 152, 3) := by decide +kernel
theorem dX8_move_15 : decode cX8_move 15 = .ok (.iconst 1, 1) := by decide +kernel
theorem dX8_move_16 : decode cX8_move 16 = .ok (.isub, 1) := by decide +kernel
theorem dX8_move_17 : decode cX8_move 17 = .ok (.i2l, 1) := by decide +kernel
theorem dX8_move_18 : decode cX8_move 18 = .ok (.invokestatic 120, 3) := by decide +kernel
theorem dX8_move_21 : decode cX8_move 21 = .ok (.ifCond .eq 56, 3) := by decide +kernel
theorem dX8_move_24 : decode cX8_move 24 = .ok (.aload_n 0, 1) := by decide +kernel
theorem dX8_move_25 : decode cX8_move 25 = .ok (.iload_n 2, 1) := by decide +kernel
theorem dX8_move_26 : decode cX8_move 26 = .ok (.iload_n 1, 1) := by decide +kernel
theorem dX8_move_27 : decode cX8_move 27 = .ok (.invokevirtual 219, 3) := by decide +kernel
theorem dX8_move_30 : decode cX8_move 30 = .ok (.ifCond .eq 47, 3) := by decide +kernel
theorem dX8_move_33 : decode cX8_move 33 = .ok (.iload_n 3, 1) := by decide +kernel
theorem dX8_move_34 : decode cX8_move 34 = .ok (.iconst 1, 1) := by decide +kernel
theorem dX8_move_35 : decode cX8_move 35 = .ok (.if_icmp .lt 42, 3) := by decide +kernel
theorem dX8_move_38 : decode cX8_move 38 = .ok (.iload_n 3, 1) := by decide +kernel
theorem dX8_move_39 : decode cX8_move 39 = .ok (.i2l, 1) := by decide +kernel
theorem dX8_move_40 : decode cX8_move 40 = .ok (.aload_n 0, 1) := by decide +kernel
theorem dX8_move_41 : decode cX8_move 41 = .ok (.iload_n 1, 1) := by decide +kernel
theorem dX8_move_42 : decode cX8_move 42 = .ok (.invokevirtual 169, 3) := by decide +kernel
theorem dX8_move_45 : decode cX8_move 45 = .ok (.lcmp, 1) := by decide +kernel
theorem dX8_move_46 : decode cX8_move 46 = .ok (.ifCond .gt 31, 3) := by decide +kernel
theorem dX8_move_49 : decode cX8_move 49 = .ok (.iload_n 3, 1) := by decide +kernel
theorem dX8_move_50 : decode cX8_move 50 = .ok (.aload_n 0, 1) := by decide +kernel
theorem dX8_move_51 : decode cX8_move 51 = .ok (.getfield 41, 3) := by decide +kernel
theorem dX8_move_54 : decode cX8_move 54 = .ok (.iload_n 2, 1) := by decide +kernel
theorem dX8_move_55 : decode cX8_move 55 = .ok (.iaload, 1) := by decide +kernel
theorem dX8_move_56 : decode cX8_move 56 = .ok (.aload_n 0, 1) := by decide +kernel
theorem dX8_move_57 : decode cX8_move 57 = .ok (.getfield 44, 3) := by decide +kernel
theorem dX8_move_60 : decode cX8_move 60 = .ok (.iload_n 2, 1) := by decide +kernel
theorem dX8_move_61 : decode cX8_move 61 = .ok (.iaload, 1) := by decide +kernel
theorem dX8_move_62 : decode cX8_move 62 = .ok (.isub, 1) := by decide +kernel
theorem dX8_move_63 : decode cX8_move 63 = .ok (.if_icmp .gt 14, 3) := by decide +kernel
theorem dX8_move_66 : decode cX8_move 66 = .ok (.aload_n 0, 1) := by decide +kernel
theorem dX8_move_67 : decode cX8_move 67 = .ok (.getfield 54, 3) := by decide +kernel
theorem dX8_move_70 : decode cX8_move 70 = .ok (.iconst 0, 1) := by decide +kernel
theorem dX8_move_71 : decode cX8_move 71 = .ok (.iaload, 1) := by decide +kernel
theorem dX8_move_72 : decode cX8_move 72 = .ok (.bipush 60, 2) := by decide +kernel
theorem dX8_move_74 : decode cX8_move 74 = .ok (.if_icmp .ne 5, 3) := by decide +kernel
theorem dX8_move_77 : decode cX8_move 77 = .ok (.iconst 0, 1) := by decide +kernel
theorem dX8_move_78 : decode cX8_move 78 = .ok (.ireturn, 1) := by decide +kernel
theorem dX8_move_79 : decode cX8_move 79 = .ok (.aload_n 0, 1) := by decide +kernel
theorem dX8_move_80 : decode cX8_move 80 = .ok (.iconst 0, 1) := by decide +kernel
theorem dX8_move_81 : decode cX8_move 81 = .ok (.iload_n 1, 1) := by decide +kernel
theorem dX8_move_82 : decode cX8_move 82 = .ok (.iload_n 2, 1) := by decide +kernel
theorem dX8_move_83 : decode cX8_move 83 = .ok (.iload_n 3, 1) := by decide +kernel
theorem dX8_move_84 : decode cX8_move 84 = .ok (.invokevirtual 222, 3) := by decide +kernel
theorem dX8_move_87 : decode cX8_move 87 = .ok (.aload_n 0, 1) := by decide +kernel
theorem dX8_move_88 : decode cX8_move 88 = .ok (.getfield 44, 3) := by decide +kernel
theorem dX8_move_91 : decode cX8_move 91 = .ok (.iload_n 2, 1) := by decide +kernel
theorem dX8_move_92 : decode cX8_move 92 = .ok (.dup2, 1) := by decide +kernel
theorem dX8_move_93 : decode cX8_move 93 = .ok (.iaload, 1) := by decide +kernel
theorem dX8_move_94 : decode cX8_move 94 = .ok (.iload_n 3, 1) := by decide +kernel
theorem dX8_move_95 : decode cX8_move 95 = .ok (.iadd, 1) := by decide +kernel
theorem dX8_move_96 : decode cX8_move 96 = .ok (.iastore, 1) := by decide +kernel
theorem dX8_move_97 : decode cX8_move 97 = .ok (.iconst 1, 1) := by decide +kernel
theorem dX8_move_98 : decode cX8_move 98 = .ok (.ireturn, 1) := by decide +kernel
theorem dX8_loan_0 : decode cX8_loan 0 = .ok (.aload_n 0, 1) := by decide +kernel
theorem dX8_loan_1 : decode cX8_loan 1 = .ok (.iload_n 1, 1) := by decide +kernel
theorem dX8_loan_2 : decode cX8_loan 2 = .ok (.invokevirtual 155, 3) := by decide +kernel
theorem dX8_loan_5 : decode cX8_loan 5 = .ok (.ifCond .eq 19, 3) := by decide +kernel
theorem dX8_loan_8 : decode cX8_loan 8 = .ok (.iload_n 2, 1) := by decide +kernel
theorem dX8_loan_9 : decode cX8_loan 9 = .ok (.iconst 1, 1) := by decide +kernel
theorem dX8_loan_10 : decode cX8_loan 10 = .ok (.if_icmp .lt 14, 3) := by decide +kernel
theorem dX8_loan_13 : decode cX8_loan 13 = .ok (.iload_n 2, 1) := by decide +kernel
theorem dX8_loan_14 : decode cX8_loan 14 = .ok (.i2l, 1) := by decide +kernel
theorem dX8_loan_15 : decode cX8_loan 15 = .ok (.aload_n 0, 1) := by decide +kernel
theorem dX8_loan_16 : decode cX8_loan 16 = .ok (.iload_n 1, 1) := by decide +kernel
theorem dX8_loan_17 : decode cX8_loan 17 = .ok (.invokevirtual 169, 3) := by decide +kernel
theorem dX8_loan_20 : decode cX8_loan 20 = .ok (.lcmp, 1) := by decide +kernel
theorem dX8_loan_21 : decode cX8_loan 21 = .ok (.ifCond .le 7, 3) := by decide +kernel
theorem dX8_loan_24 : decode cX8_loan 24 = .ok (.ldc2_w 226, 3) := by decide +kernel
theorem dX8_loan_27 : decode cX8_loan 27 = .ok (.lreturn, 1) := by decide +kernel
theorem dX8_loan_28 : decode cX8_loan 28 = .ok (.aload_n 0, 1) := by decide +kernel
theorem dX8_loan_29 : decode cX8_loan 29 = .ok (.iload_n 1, 1) := by decide +kernel
theorem dX8_loan_30 : decode cX8_loan 30 = .ok (.iload_n 2, 1) := by decide +kernel
theorem dX8_loan_31 : decode cX8_loan 31 = .ok (.i2l, 1) := by decide +kernel
theorem dX8_loan_32 : decode cX8_loan 32 = .ok (.invokevirtual 188, 3) := by decide +kernel
theorem dX8_loan_35 : decode cX8_loan 35 = .ok (.aload_n 0, 1) := by decide +kernel
theorem dX8_loan_36 : decode cX8_loan 36 = .ok (.getfield 66, 3) := by decide +kernel
theorem dX8_loan_39 : decode cX8_loan 39 = .ok (.iload_n 1, 1) := by decide +kernel
theorem dX8_loan_40 : decode cX8_loan 40 = .ok (.dup2, 1) := by decide +kernel
theorem dX8_loan_41 : decode cX8_loan 41 = .ok (.laload, 1) := by decide +kernel
theorem dX8_loan_42 : decode cX8_loan 42 = .ok (.iload_n 2, 1) := by decide +kernel
theorem dX8_loan_43 : decode cX8_loan 43 = .ok (.i2l, 1) := by decide +kernel
theorem dX8_loan_44 : decode cX8_loan 44 = .ok (.ladd, 1) := by decide +kernel
theorem dX8_loan_45 : decode cX8_loan 45 = .ok (.lastore, 1) := by decide +kernel
theorem dX8_loan_46 : decode cX8_loan 46 = .ok (.aload_n 0, 1) := by decide +kernel
theorem dX8_loan_47 : decode cX8_loan 47 = .ok (.getfield 81, 3) := by decide +kernel
theorem dX8_loan_50 : decode cX8_loan 50 = .ok (.iload_n 1, 1) := by decide +kernel
theorem dX8_loan_51 : decode cX8_loan 51 = .ok (.dup2, 1) := by decide +kernel
theorem dX8_loan_52 : decode cX8_loan 52 = .ok (.laload, 1) := by decide +kernel
theorem dX8_loan_53 : decode cX8_loan 53 = .ok (.iload_n 2, 1) := by decide +kernel
theorem dX8_loan_54 : decode cX8_loan 54 = .ok (.i2l, 1) := by decide +kernel
theorem dX8_loan_55 : decode cX8_loan 55 = .ok (.aload_n 0, 1) := by decide +kernel
theorem dX8_loan_56 : decode cX8_loan 56 = .ok (.getfield 17, 3) := by decide +kernel
theorem dX8_loan_59 : decode cX8_loan 59 = .ok (.iconst 4, 1) := by decide +kernel
theorem dX8_loan_60 : decode cX8_loan 60 = .ok (.iaload, 1) := by decide +kernel
theorem dX8_loan_61 : decode cX8_loan 61 = .ok (.i2l, 1) := by decide +kernel
theorem dX8_loan_62 : decode cX8_loan 62 = .ok (.lmul, 1) := by decide +kernel
theorem dX8_loan_63 : decode cX8_loan 63 = .ok (.ldc2_w 192, 3) := by decide +kernel
theorem dX8_loan_66 : decode cX8_loan 66 = .ok (.ladd, 1) := by decide +kernel
theorem dX8_loan_67 : decode cX8_loan 67 = .ok (.ldc2_w 194, 3) := by decide +kernel
theorem dX8_loan_70 : decode cX8_loan 70 = .ok (.ldiv, 1) := by decide +kernel
theorem dX8_loan_71 : decode cX8_loan 71 = .ok (.ladd, 1) := by decide +kernel
theorem dX8_loan_72 : decode cX8_loan 72 = .ok (.lastore, 1) := by decide +kernel
theorem dX8_loan_73 : decode cX8_loan 73 = .ok (.aload_n 0, 1) := by decide +kernel
theorem dX8_loan_74 : decode cX8_loan 74 = .ok (.getfield 81, 3) := by decide +kernel
theorem dX8_loan_77 : decode cX8_loan 77 = .ok (.iload_n 1, 1) := by decide +kernel
theorem dX8_loan_78 : decode cX8_loan 78 = .ok (.laload, 1) := by decide +kernel
theorem dX8_loan_79 : decode cX8_loan 79 = .ok (.lreturn, 1) := by decide +kernel
theorem dX8_steal_0 : decode cX8_steal 0 = .ok (.aload_n 0, 1) := by decide +kernel
theorem dX8_steal_1 : decode cX8_steal 1 = .ok (.iload_n 1, 1) := by decide +kernel
theorem dX8_steal_2 : decode cX8_steal 2 = .ok (.invokevirtual 155, 3) := by decide +kernel
theorem dX8_steal_5 : decode cX8_steal 5 = .ok (.ifCond .eq 19, 3) := by decide +kernel
theorem dX8_steal_8 : decode cX8_steal 8 = .ok (.iload_n 2, 1) := by decide +kernel
theorem dX8_steal_9 : decode cX8_steal 9 = .ok (.iconst 1, 1) := by decide +kernel
theorem dX8_steal_10 : decode cX8_steal 10 = .ok (.if_icmp .lt 14, 3) := by decide +kernel
theorem dX8_steal_13 : decode cX8_steal 13 = .ok (.iload_n 2, 1) := by decide +kernel
theorem dX8_steal_14 : decode cX8_steal 14 = .ok (.i2l, 1) := by decide +kernel
theorem dX8_steal_15 : decode cX8_steal 15 = .ok (.aload_n 0, 1) := by decide +kernel
theorem dX8_steal_16 : decode cX8_steal 16 = .ok (.iload_n 1, 1) := by decide +kernel
theorem dX8_steal_17 : decode cX8_steal 17 = .ok (.invokevirtual 169, 3) := by decide +kernel
theorem dX8_steal_20 : decode cX8_steal 20 = .ok (.lcmp, 1) := by decide +kernel
theorem dX8_steal_21 : decode cX8_steal 21 = .ok (.ifCond .le 5, 3) := by decide +kernel
theorem dX8_steal_24 : decode cX8_steal 24 = .ok (.iconst 0, 1) := by decide +kernel
theorem dX8_steal_25 : decode cX8_steal 25 = .ok (.ireturn, 1) := by decide +kernel
theorem dX8_steal_26 : decode cX8_steal 26 = .ok (.iload_n 2, 1) := by decide +kernel
theorem dX8_steal_27 : decode cX8_steal 27 = .ok (.istore_n 3, 1) := by decide +kernel
theorem dX8_steal_28 : decode cX8_steal 28 = .ok (.bipush 40, 2) := by decide +kernel
theorem dX8_steal_30 : decode cX8_steal 30 = .ok (.iload_n 1, 1) := by decide +kernel
theorem dX8_steal_31 : decode cX8_steal 31 = .ok (.imul, 1) := by decide +kernel
theorem dX8_steal_32 : decode cX8_steal 32 = .ok (.istore 4, 2) := by decide +kernel
theorem dX8_steal_34 : decode cX8_steal 34 = .ok (.iload_n 3, 1) := by decide +kernel
theorem dX8_steal_35 : decode cX8_steal 35 = .ok (.ifCond .le 77, 3) := by decide +kernel
theorem dX8_steal_38 : decode cX8_steal 38 = .ok (.aload_n 0, 1) := by decide +kernel
theorem dX8_steal_39 : decode cX8_steal 39 = .ok (.getfield 99, 3) := by decide +kernel
theorem dX8_steal_42 : decode cX8_steal 42 = .ok (.iload 4, 2) := by decide +kernel
theorem dX8_steal_44 : decode cX8_steal 44 = .ok (.iaload, 1) := by decide +kernel
theorem dX8_steal_45 : decode cX8_steal 45 = .ok (.iload_n 3, 1) := by decide +kernel
theorem dX8_steal_46 : decode cX8_steal 46 = .ok (.if_icmp .ge 13, 3) := by decide +kernel
theorem dX8_steal_49 : decode cX8_steal 49 = .ok (.aload_n 0, 1) := by decide +kernel
theorem dX8_steal_50 : decode cX8_steal 50 = .ok (.getfield 99, 3) := by decide +kernel
theorem dX8_steal_53 : decode cX8_steal 53 = .ok (.iload 4, 2) := by decide +kernel
theorem dX8_steal_55 : decode cX8_steal 55 = .ok (.iaload, 1) := by decide +kernel
theorem dX8_steal_56 : decode cX8_steal 56 = .ok (.goto 4, 3) := by decide +kernel
theorem dX8_steal_59 : decode cX8_steal 59 = .ok (.iload_n 3, 1) := by decide +kernel
theorem dX8_steal_60 : decode cX8_steal 60 = .ok (.istore 5, 2) := by decide +kernel
theorem dX8_steal_62 : decode cX8_steal 62 = .ok (.aload_n 0, 1) := by decide +kernel
theorem dX8_steal_63 : decode cX8_steal 63 = .ok (.getfield 99, 3) := by decide +kernel
theorem dX8_steal_66 : decode cX8_steal 66 = .ok (.iload 4, 2) := by decide +kernel
theorem dX8_steal_68 : decode cX8_steal 68 = .ok (.dup2, 1) := by decide +kernel
theorem dX8_steal_69 : decode cX8_steal 69 = .ok (.iaload, 1) := by decide +kernel
theorem dX8_steal_70 : decode cX8_steal 70 = .ok (.iload 5, 2) := by decide +kernel
theorem dX8_steal_72 : decode cX8_steal 72 = .ok (.isub, 1) := by decide +kernel
theorem dX8_steal_73 : decode cX8_steal 73 = .ok (.iastore, 1) := by decide +kernel
theorem dX8_steal_74 : decode cX8_steal 74 = .ok (.iload_n 3, 1) := by decide +kernel
theorem dX8_steal_75 : decode cX8_steal 75 = .ok (.iload 5, 2) := by decide +kernel
theorem dX8_steal_77 : decode cX8_steal 77 = .ok (.isub, 1) := by decide +kernel
theorem dX8_steal_78 : decode cX8_steal 78 = .ok (.istore_n 3, 1) := by decide +kernel
theorem dX8_steal_79 : decode cX8_steal 79 = .ok (.aload_n 0, 1) := by decide +kernel
theorem dX8_steal_80 : decode cX8_steal 80 = .ok (.getfield 102, 3) := by decide +kernel
theorem dX8_steal_83 : decode cX8_steal 83 = .ok (.iload 4, 2) := by decide +kernel
theorem dX8_steal_85 : decode cX8_steal 85 = .ok (.aload_n 0, 1) := by decide +kernel
theorem dX8_steal_86 : decode cX8_steal 86 = .ok (.getfield 102, 3) := by decide +kernel
theorem dX8_steal_89 : decode cX8_steal 89 = .ok (.iload 4, 2) := by decide +kernel
theorem dX8_steal_91 : decode cX8_steal 91 = .ok (.baload, 1) := by decide +kernel
theorem dX8_steal_92 : decode cX8_steal 92 = .ok (.ifCond .eq 12, 3) := by decide +kernel
theorem dX8_steal_95 : decode cX8_steal 95 = .ok (.iload 5, 2) := by decide +kernel
theorem dX8_steal_97 : decode cX8_steal 97 = .ok (.ifCond .ne 7, 3) := by decide +kernel
theorem dX8_steal_100 : decode cX8_steal 100 = .ok (.iconst 1, 1) := by decide +kernel
theorem dX8_steal_101 : decode cX8_steal 101 = .ok (.goto 4, 3) := by decide +kernel
theorem dX8_steal_104 : decode cX8_steal 104 = .ok (.iconst 0, 1) := by decide +kernel
theorem dX8_steal_105 : decode cX8_steal 105 = .ok (.bastore, 1) := by decide +kernel
theorem dX8_steal_106 : decode cX8_steal 106 = .ok (.iinc 4 1, 3) := by decide +kernel
theorem dX8_steal_109 : decode cX8_steal 109 = .ok (.goto (-75), 3) := by decide +kernel
theorem dX8_steal_112 : decode cX8_steal 112 = .ok (.aload_n 0, 1) := by decide +kernel
theorem dX8_steal_113 : decode cX8_steal 113 = .ok (.getfield 90, 3) := by decide +kernel
theorem dX8_steal_116 : decode cX8_steal 116 = .ok (.iload_n 1, 1) := by decide +kernel
theorem dX8_steal_117 : decode cX8_steal 117 = .ok (.dup2, 1) := by decide +kernel
theorem dX8_steal_118 : decode cX8_steal 118 = .ok (.laload, 1) := by decide +kernel
theorem dX8_steal_119 : decode cX8_steal 119 = .ok (.iload_n 2, 1) := by decide +kernel
theorem dX8_steal_120 : decode cX8_steal 120 = .ok (.i2l, 1) := by decide +kernel
theorem dX8_steal_121 : decode cX8_steal 121 = .ok (.ladd, 1) := by decide +kernel
theorem dX8_steal_122 : decode cX8_steal 122 = .ok (.lastore, 1) := by decide +kernel
theorem dX8_steal_123 : decode cX8_steal 123 = .ok (.iconst 1, 1) := by decide +kernel
theorem dX8_steal_124 : decode cX8_steal 124 = .ok (.ireturn, 1) := by decide +kernel
theorem dX8_measure_0 : decode cX8_measure 0 = .ok (.aload_n 0, 1) := by decide +kernel
theorem dX8_measure_1 : decode cX8_measure 1 = .ok (.iload_n 1, 1) := by decide +kernel
theorem dX8_measure_2 : decode cX8_measure 2 = .ok (.invokevirtual 155, 3) := by decide +kernel
theorem dX8_measure_5 : decode cX8_measure 5 = .ok (.ifCond .eq 21, 3) := by decide +kernel
theorem dX8_measure_8 : decode cX8_measure 8 = .ok (.iload_n 2, 1) := by decide +kernel
theorem dX8_measure_9 : decode cX8_measure 9 = .ok (.i2l, 1) := by decide +kernel
theorem dX8_measure_10 : decode cX8_measure 10 = .ok (.lconst 0, 1) := by decide +kernel
theorem dX8_measure_11 : decode cX8_measure 11 = .ok (.aload_n 0, 1) := by decide +kernel
theorem dX8_measure_12 : decode cX8_measure 12 = .ok (.getfield 69, 3) := by decide +kernel
theorem dX8_measure_15 : decode cX8_measure 15 = .ok (.iload_n 1, 1) := by decide +kernel
theorem dX8_measure_16 : decode cX8_measure 16 = .ok (.iaload, 1) := by decide +kernel
theorem dX8_measure_17 : decode cX8_measure 17 = .ok (.iconst 1, 1) := by decide +kernel
theorem dX8_measure_18 : decode cX8_measure 18 = .ok (.isub, 1) := by decide +kernel
theorem dX8_measure_19 : decode cX8_measure 19 = .ok (.i2l, 1) := by decide +kernel
theorem dX8_measure_20 : decode cX8_measure 20 = .ok (.invokestatic 120, 3) := by decide +kernel
theorem dX8_measure_23 : decode cX8_measure 23 = .ok (.ifCond .ne 5, 3) := by decide +kernel
theorem dX8_measure_26 : decode cX8_measure 26 = .ok (.iconst (-1), 1) := by decide +kernel
theorem dX8_measure_27 : decode cX8_measure 27 = .ok (.ireturn, 1) := by decide +kernel
theorem dX8_measure_28 : decode cX8_measure 28 = .ok (.bipush 40, 2) := by decide +kernel
theorem dX8_measure_30 : decode cX8_measure 30 = .ok (.iload_n 1, 1) := by decide +kernel
theorem dX8_measure_31 : decode cX8_measure 31 = .ok (.imul, 1) := by decide +kernel
theorem dX8_measure_32 : decode cX8_measure 32 = .ok (.iload_n 2, 1) := by decide +kernel
theorem dX8_measure_33 : decode cX8_measure 33 = .ok (.iadd, 1) := by decide +kernel
theorem dX8_measure_34 : decode cX8_measure 34 = .ok (.istore_n 3, 1) := by decide +kernel
theorem dX8_measure_35 : decode cX8_measure 35 = .ok (.aload_n 0, 1) := by decide +kernel
theorem dX8_measure_36 : decode cX8_measure 36 = .ok (.getfield 96, 3) := by decide +kernel
theorem dX8_measure_39 : decode cX8_measure 39 = .ok (.iload_n 3, 1) := by decide +kernel
theorem dX8_measure_40 : decode cX8_measure 40 = .ok (.iaload, 1) := by decide +kernel
theorem dX8_measure_41 : decode cX8_measure 41 = .ok (.aload_n 0, 1) := by decide +kernel
theorem dX8_measure_42 : decode cX8_measure 42 = .ok (.getfield 99, 3) := by decide +kernel
theorem dX8_measure_45 : decode cX8_measure 45 = .ok (.iload_n 3, 1) := by decide +kernel
theorem dX8_measure_46 : decode cX8_measure 46 = .ok (.iaload, 1) := by decide +kernel
theorem dX8_measure_47 : decode cX8_measure 47 = .ok (.isub, 1) := by decide +kernel
theorem dX8_measure_48 : decode cX8_measure 48 = .ok (.istore 4, 2) := by decide +kernel
theorem dX8_measure_50 : decode cX8_measure 50 = .ok (.aload_n 0, 1) := by decide +kernel
theorem dX8_measure_51 : decode cX8_measure 51 = .ok (.getfield 99, 3) := by decide +kernel
theorem dX8_measure_54 : decode cX8_measure 54 = .ok (.iload_n 3, 1) := by decide +kernel
theorem dX8_measure_55 : decode cX8_measure 55 = .ok (.iaload, 1) := by decide +kernel
theorem dX8_measure_56 : decode cX8_measure 56 = .ok (.ifCond .ne 12, 3) := by decide +kernel
theorem dX8_measure_59 : decode cX8_measure 59 = .ok (.aload_n 0, 1) := by decide +kernel
theorem dX8_measure_60 : decode cX8_measure 60 = .ok (.iload_n 1, 1) := by decide +kernel
theorem dX8_measure_61 : decode cX8_measure 61 = .ok (.iload_n 2, 1) := by decide +kernel
theorem dX8_measure_62 : decode cX8_measure 62 = .ok (.invokevirtual 165, 3) := by decide +kernel
theorem dX8_measure_65 : decode cX8_measure 65 = .ok (.iload 4, 2) := by decide +kernel
theorem dX8_measure_67 : decode cX8_measure 67 = .ok (.ireturn, 1) := by decide +kernel
theorem dX8_measure_68 : decode cX8_measure 68 = .ok (.aload_n 0, 1) := by decide +kernel
theorem dX8_measure_69 : decode cX8_measure 69 = .ok (.getfield 96, 3) := by decide +kernel
theorem dX8_measure_72 : decode cX8_measure 72 = .ok (.iload_n 3, 1) := by decide +kernel
theorem dX8_measure_73 : decode cX8_measure 73 = .ok (.aload_n 0, 1) := by decide +kernel
theorem dX8_measure_74 : decode cX8_measure 74 = .ok (.getfield 99, 3) := by decide +kernel
theorem dX8_measure_77 : decode cX8_measure 77 = .ok (.iload_n 3, 1) := by decide +kernel
theorem dX8_measure_78 : decode cX8_measure 78 = .ok (.iaload, 1) := by decide +kernel
theorem dX8_measure_79 : decode cX8_measure 79 = .ok (.iastore, 1) := by decide +kernel
theorem dX8_measure_80 : decode cX8_measure 80 = .ok (.aload_n 0, 1) := by decide +kernel
theorem dX8_measure_81 : decode cX8_measure 81 = .ok (.getfield 72, 3) := by decide +kernel
theorem dX8_measure_84 : decode cX8_measure 84 = .ok (.iload_n 1, 1) := by decide +kernel
theorem dX8_measure_85 : decode cX8_measure 85 = .ok (.dup2, 1) := by decide +kernel
theorem dX8_measure_86 : decode cX8_measure 86 = .ok (.laload, 1) := by decide +kernel
theorem dX8_measure_87 : decode cX8_measure 87 = .ok (.iload 4, 2) := by decide +kernel
theorem dX8_measure_89 : decode cX8_measure 89 = .ok (.i2l, 1) := by decide +kernel
theorem dX8_measure_90 : decode cX8_measure 90 = .ok (.ladd, 1) := by decide +kernel
theorem dX8_measure_91 : decode cX8_measure 91 = .ok (.lastore, 1) := by decide +kernel
theorem dX8_measure_92 : decode cX8_measure 92 = .ok (.aload_n 0, 1) := by decide +kernel
theorem dX8_measure_93 : decode cX8_measure 93 = .ok (.getfield 102, 3) := by decide +kernel
theorem dX8_measure_96 : decode cX8_measure 96 = .ok (.iload_n 3, 1) := by decide +kernel
theorem dX8_measure_97 : decode cX8_measure 97 = .ok (.iconst 1, 1) := by decide +kernel
theorem dX8_measure_98 : decode cX8_measure 98 = .ok (.bastore, 1) := by decide +kernel
theorem dX8_measure_99 : decode cX8_measure 99 = .ok (.iload 4, 2) := by decide +kernel
theorem dX8_measure_101 : decode cX8_measure 101 = .ok (.ireturn, 1) := by decide +kernel
theorem dX8_missing_0 : decode cX8_missing 0 = .ok (.aload_n 0, 1) := by decide +kernel
theorem dX8_missing_1 : decode cX8_missing 1 = .ok (.iload_n 1, 1) := by decide +kernel
theorem dX8_missing_2 : decode cX8_missing 2 = .ok (.invokevirtual 155, 3) := by decide +kernel
theorem dX8_missing_5 : decode cX8_missing 5 = .ok (.ifCond .ne 7, 3) := by decide +kernel
theorem dX8_missing_8 : decode cX8_missing 8 = .ok (.ldc2_w 226, 3) := by decide +kernel
theorem dX8_missing_11 : decode cX8_missing 11 = .ok (.lreturn, 1) := by decide +kernel
theorem dX8_missing_12 : decode cX8_missing 12 = .ok (.iload_n 2, 1) := by decide +kernel
theorem dX8_missing_13 : decode cX8_missing 13 = .ok (.ifCond .ne 12, 3) := by decide +kernel
theorem dX8_missing_16 : decode cX8_missing 16 = .ok (.aload_n 0, 1) := by decide +kernel
theorem dX8_missing_17 : decode cX8_missing 17 = .ok (.getfield 72, 3) := by decide +kernel
theorem dX8_missing_20 : decode cX8_missing 20 = .ok (.iload_n 1, 1) := by decide +kernel
theorem dX8_missing_21 : decode cX8_missing 21 = .ok (.laload, 1) := by decide +kernel
theorem dX8_missing_22 : decode cX8_missing 22 = .ok (.goto 27, 3) := by decide +kernel
theorem dX8_missing_25 : decode cX8_missing 25 = .ok (.iload_n 2, 1) := by decide +kernel
theorem dX8_missing_26 : decode cX8_missing 26 = .ok (.iconst 1, 1) := by decide +kernel
theorem dX8_missing_27 : decode cX8_missing 27 = .ok (.if_icmp .ne 19, 3) := by decide +kernel
theorem dX8_missing_30 : decode cX8_missing 30 = .ok (.aload_n 0, 1) := by decide +kernel
theorem dX8_missing_31 : decode cX8_missing 31 = .ok (.getfield 72, 3) := by decide +kernel
theorem dX8_missing_34 : decode cX8_missing 34 = .ok (.iload_n 1, 1) := by decide +kernel
theorem dX8_missing_35 : decode cX8_missing 35 = .ok (.laload, 1) := by decide +kernel
theorem dX8_missing_36 : decode cX8_missing 36 = .ok (.aload_n 0, 1) := by decide +kernel
theorem dX8_missing_37 : decode cX8_missing 37 = .ok (.iload_n 1, 1) := by decide +kernel
theorem dX8_missing_38 : decode cX8_missing 38 = .ok (.iconst 0, 1) := by decide +kernel
theorem dX8_missing_39 : decode cX8_missing 39 = .ok (.invokevirtual 228, 3) := by decide +kernel
theorem dX8_missing_42 : decode cX8_missing 42 = .ok (.ladd, 1) := by decide +kernel
theorem dX8_missing_43 : decode cX8_missing 43 = .ok (.goto 6, 3) := by decide +kernel
theorem dX8_missing_46 : decode cX8_missing 46 = .ok (.ldc2_w 226, 3) := by decide +kernel
theorem dX8_missing_49 : decode cX8_missing 49 = .ok (.lreturn, 1) := by decide +kernel
theorem dX8_copies_0 : decode cX8_copies 0 = .ok (.aload_n 0, 1) := by decide +kernel
theorem dX8_copies_1 : decode cX8_copies 1 = .ok (.getfield 47, 3) := by decide +kernel
theorem dX8_copies_4 : decode cX8_copies 4 = .ok (.iconst 1, 1) := by decide +kernel
theorem dX8_copies_5 : decode cX8_copies 5 = .ok (.aload_n 0, 1) := by decide +kernel
theorem dX8_copies_6 : decode cX8_copies 6 = .ok (.getfield 47, 3) := by decide +kernel
theorem dX8_copies_9 : decode cX8_copies 9 = .ok (.iconst 0, 1) := by decide +kernel
theorem dX8_copies_10 : decode cX8_copies 10 = .ok (.iaload, 1) := by decide +kernel
theorem dX8_copies_11 : decode cX8_copies 11 = .ok (.iastore, 1) := by decide +kernel
theorem dX8_copies_12 : decode cX8_copies 12 = .ok (.aload_n 0, 1) := by decide +kernel
theorem dX8_copies_13 : decode cX8_copies 13 = .ok (.getfield 50, 3) := by decide +kernel
theorem dX8_copies_16 : decode cX8_copies 16 = .ok (.iconst 1, 1) := by decide +kernel
theorem dX8_copies_17 : decode cX8_copies 17 = .ok (.aload_n 0, 1) := by decide +kernel
theorem dX8_copies_18 : decode cX8_copies 18 = .ok (.getfield 50, 3) := by decide +kernel
theorem dX8_copies_21 : decode cX8_copies 21 = .ok (.iconst 0, 1) := by decide +kernel
theorem dX8_copies_22 : decode cX8_copies 22 = .ok (.laload, 1) := by decide +kernel
theorem dX8_copies_23 : decode cX8_copies 23 = .ok (.lastore, 1) := by decide +kernel
theorem dX8_copies_24 : decode cX8_copies 24 = .ok (.aload_n 0, 1) := by decide +kernel
theorem dX8_copies_25 : decode cX8_copies 25 = .ok (.getfield 54, 3) := by decide +kernel
theorem dX8_copies_28 : decode cX8_copies 28 = .ok (.iconst 1, 1) := by decide +kernel
theorem dX8_copies_29 : decode cX8_copies 29 = .ok (.aload_n 0, 1) := by decide +kernel
theorem dX8_copies_30 : decode cX8_copies 30 = .ok (.getfield 54, 3) := by decide +kernel
theorem dX8_copies_33 : decode cX8_copies 33 = .ok (.iconst 0, 1) := by decide +kernel
theorem dX8_copies_34 : decode cX8_copies 34 = .ok (.iaload, 1) := by decide +kernel
theorem dX8_copies_35 : decode cX8_copies 35 = .ok (.iastore, 1) := by decide +kernel
theorem dX8_copies_36 : decode cX8_copies 36 = .ok (.iconst 0, 1) := by decide +kernel
theorem dX8_copies_37 : decode cX8_copies 37 = .ok (.istore_n 1, 1) := by decide +kernel
theorem dX8_copies_38 : decode cX8_copies 38 = .ok (.iload_n 1, 1) := by decide +kernel
theorem dX8_copies_39 : decode cX8_copies 39 = .ok (.aload_n 0, 1) := by decide +kernel
theorem dX8_copies_40 : decode cX8_copies 40 = .ok (.getfield 54, 3) := by decide +kernel
theorem dX8_copies_43 : decode cX8_copies 43 = .ok (.iconst 0, 1) := by decide +kernel
theorem dX8_copies_44 : decode cX8_copies 44 = .ok (.iaload, 1) := by decide +kernel
theorem dX8_copies_45 : decode cX8_copies 45 = .ok (.if_icmp .ge 54, 3) := by decide +kernel
theorem dX8_copies_48 : decode cX8_copies 48 = .ok (.aload_n 0, 1) := by decide +kernel
theorem dX8_copies_49 : decode cX8_copies 49 = .ok (.getfield 57, 3) := by decide +kernel
theorem dX8_copies_52 : decode cX8_copies 52 = .ok (.bipush 60, 2) := by decide +kernel
theorem dX8_copies_54 : decode cX8_copies 54 = .ok (.iload_n 1, 1) := by decide +kernel
theorem dX8_copies_55 : decode cX8_copies 55 = .ok (.iadd, 1) := by decide +kernel
theorem dX8_copies_56 : decode cX8_copies 56 = .ok (.aload_n 0, 1) := by decide +kernel
theorem dX8_copies_57 : decode cX8_copies 57 = .ok (.getfield 57, 3) := by decide +kernel
theorem dX8_copies_60 : decode cX8_copies 60 = .ok (.iload_n 1, 1) := by decide +kernel
theorem dX8_copies_61 : decode cX8_copies 61 = .ok (.iaload, 1) := by decide +kernel
theorem dX8_copies_62 : decode cX8_copies 62 = .ok (.iastore, 1) := by decide +kernel
theorem dX8_copies_63 : decode cX8_copies 63 = .ok (.aload_n 0, 1) := by decide +kernel
theorem dX8_copies_64 : decode cX8_copies 64 = .ok (.getfield 60, 3) := by decide +kernel
theorem dX8_copies_67 : decode cX8_copies 67 = .ok (.bipush 60, 2) := by decide +kernel
theorem dX8_copies_69 : decode cX8_copies 69 = .ok (.iload_n 1, 1) := by decide +kernel
theorem dX8_copies_70 : decode cX8_copies 70 = .ok (.iadd, 1) := by decide +kernel
theorem dX8_copies_71 : decode cX8_copies 71 = .ok (.aload_n 0, 1) := by decide +kernel
theorem dX8_copies_72 : decode cX8_copies 72 = .ok (.getfield 60, 3) := by decide +kernel
theorem dX8_copies_75 : decode cX8_copies 75 = .ok (.iload_n 1, 1) := by decide +kernel
theorem dX8_copies_76 : decode cX8_copies 76 = .ok (.iaload, 1) := by decide +kernel
theorem dX8_copies_77 : decode cX8_copies 77 = .ok (.iastore, 1) := by decide +kernel
theorem dX8_copies_78 : decode cX8_copies 78 = .ok (.aload_n 0, 1) := by decide +kernel
theorem dX8_copies_79 : decode cX8_copies 79 = .ok (.getfield 63, 3) := by decide +kernel
theorem dX8_copies_82 : decode cX8_copies 82 = .ok (.bipush 60, 2) := by decide +kernel
theorem dX8_copies_84 : decode cX8_copies 84 = .ok (.iload_n 1, 1) := by decide +kernel
theorem dX8_copies_85 : decode cX8_copies 85 = .ok (.iadd, 1) := by decide +kernel
theorem dX8_copies_86 : decode cX8_copies 86 = .ok (.aload_n 0, 1) := by decide +kernel
theorem dX8_copies_87 : decode cX8_copies 87 = .ok (.getfield 63, 3) := by decide +kernel
theorem dX8_copies_90 : decode cX8_copies 90 = .ok (.iload_n 1, 1) := by decide +kernel
theorem dX8_copies_91 : decode cX8_copies 91 = .ok (.iaload, 1) := by decide +kernel
theorem dX8_copies_92 : decode cX8_copies 92 = .ok (.iastore, 1) := by decide +kernel
theorem dX8_copies_93 : decode cX8_copies 93 = .ok (.iinc 1 1, 3) := by decide +kernel
theorem dX8_copies_96 : decode cX8_copies 96 = .ok (.goto (-58), 3) := by decide +kernel
theorem dX8_copies_99 : decode cX8_copies 99 = .ok (.iconst 0, 1) := by decide +kernel
theorem dX8_copies_100 : decode cX8_copies 100 = .ok (.istore_n 1, 1) := by decide +kernel
theorem dX8_copies_101 : decode cX8_copies 101 = .ok (.iload_n 1, 1) := by decide +kernel
theorem dX8_copies_102 : decode cX8_copies 102 = .ok (.aload_n 0, 1) := by decide +kernel
theorem dX8_copies_103 : decode cX8_copies 103 = .ok (.getfield 143, 3) := by decide +kernel
theorem dX8_copies_106 : decode cX8_copies 106 = .ok (.if_icmp .ge 157, 3) := by decide +kernel
theorem dX8_copies_109 : decode cX8_copies 109 = .ok (.aload_n 0, 1) := by decide +kernel
theorem dX8_copies_110 : decode cX8_copies 110 = .ok (.getfield 66, 3) := by decide +kernel
theorem dX8_copies_113 : decode cX8_copies 113 = .ok (.bipush 8, 2) := by decide +kernel
theorem dX8_copies_115 : decode cX8_copies 115 = .ok (.iload_n 1, 1) := by decide +kernel
theorem dX8_copies_116 : decode cX8_copies 116 = .ok (.iadd, 1) := by decide +kernel
theorem dX8_copies_117 : decode cX8_copies 117 = .ok (.aload_n 0, 1) := by decide +kernel
theorem dX8_copies_118 : decode cX8_copies 118 = .ok (.getfield 66, 3) := by decide +kernel
theorem dX8_copies_121 : decode cX8_copies 121 = .ok (.iload_n 1, 1) := by decide +kernel
theorem dX8_copies_122 : decode cX8_copies 122 = .ok (.laload, 1) := by decide +kernel
theorem dX8_copies_123 : decode cX8_copies 123 = .ok (.lastore, 1) := by decide +kernel
theorem dX8_copies_124 : decode cX8_copies 124 = .ok (.aload_n 0, 1) := by decide +kernel
theorem dX8_copies_125 : decode cX8_copies 125 = .ok (.getfield 69, 3) := by decide +kernel
theorem dX8_copies_128 : decode cX8_copies 128 = .ok (.bipush 8, 2) := by decide +kernel
theorem dX8_copies_130 : decode cX8_copies 130 = .ok (.iload_n 1, 1) := by decide +kernel
theorem dX8_copies_131 : decode cX8_copies 131 = .ok (.iadd, 1) := by decide +kernel
theorem dX8_copies_132 : decode cX8_copies 132 = .ok (.aload_n 0, 1) := by decide +kernel
theorem dX8_copies_133 : decode cX8_copies 133 = .ok (.getfield 69, 3) := by decide +kernel
theorem dX8_copies_136 : decode cX8_copies 136 = .ok (.iload_n 1, 1) := by decide +kernel
theorem dX8_copies_137 : decode cX8_copies 137 = .ok (.iaload, 1) := by decide +kernel
theorem dX8_copies_138 : decode cX8_copies 138 = .ok (.iastore, 1) := by decide +kernel
theorem dX8_copies_139 : decode cX8_copies 139 = .ok (.aload_n 0, 1) := by decide +kernel
theorem dX8_copies_140 : decode cX8_copies 140 = .ok (.getfield 81, 3) := by decide +kernel
theorem dX8_copies_143 : decode cX8_copies 143 = .ok (.bipush 8, 2) := by decide +kernel
theorem dX8_copies_145 : decode cX8_copies 145 = .ok (.iload_n 1, 1) := by decide +kernel
theorem dX8_copies_146 : decode cX8_copies 146 = .ok (.iadd, 1) := by decide +kernel
theorem dX8_copies_147 : decode cX8_copies 147 = .ok (.aload_n 0, 1) := by decide +kernel
theorem dX8_copies_148 : decode cX8_copies 148 = .ok (.getfield 81, 3) := by decide +kernel
theorem dX8_copies_151 : decode cX8_copies 151 = .ok (.iload_n 1, 1) := by decide +kernel
theorem dX8_copies_152 : decode cX8_copies 152 = .ok (.laload, 1) := by decide +kernel
theorem dX8_copies_153 : decode cX8_copies 153 = .ok (.lastore, 1) := by decide +kernel
theorem dX8_copies_154 : decode cX8_copies 154 = .ok (.aload_n 0, 1) := by decide +kernel
theorem dX8_copies_155 : decode cX8_copies 155 = .ok (.getfield 75, 3) := by decide +kernel
theorem dX8_copies_158 : decode cX8_copies 158 = .ok (.bipush 8, 2) := by decide +kernel
theorem dX8_copies_160 : decode cX8_copies 160 = .ok (.iload_n 1, 1) := by decide +kernel
theorem dX8_copies_161 : decode cX8_copies 161 = .ok (.iadd, 1) := by decide +kernel
theorem dX8_copies_162 : decode cX8_copies 162 = .ok (.lconst 0, 1) := by decide +kernel
theorem dX8_copies_163 : decode cX8_copies 163 = .ok (.lastore, 1) := by decide +kernel
theorem dX8_copies_164 : decode cX8_copies 164 = .ok (.iconst 0, 1) := by decide +kernel
theorem dX8_copies_165 : decode cX8_copies 165 = .ok (.istore_n 2, 1) := by decide +kernel
theorem dX8_copies_166 : decode cX8_copies 166 = .ok (.iload_n 2, 1) := by decide +kernel
theorem dX8_copies_167 : decode cX8_copies 167 = .ok (.aload_n 0, 1) := by decide +kernel
theorem dX8_copies_168 : decode cX8_copies 168 = .ok (.getfield 69, 3) := by decide +kernel
theorem dX8_copies_171 : decode cX8_copies 171 = .ok (.iload_n 1, 1) := by decide +kernel
theorem dX8_copies_172 : decode cX8_copies 172 = .ok (.iaload, 1) := by decide +kernel
theorem dX8_copies_173 : decode cX8_copies 173 = .ok (.if_icmp .ge 84, 3) := by decide +kernel
theorem dX8_copies_176 : decode cX8_copies 176 = .ok (.aload_n 0, 1) := by decide +kernel
theorem dX8_copies_177 : decode cX8_copies 177 = .ok (.getfield 93, 3) := by decide +kernel
theorem dX8_copies_180 : decode cX8_copies 180 = .ok (.bipush 40, 2) := by decide +kernel
theorem dX8_copies_182 : decode cX8_copies 182 = .ok (.bipush 8, 2) := by decide +kernel
theorem dX8_copies_184 : decode cX8_copies 184 = .ok (.iload_n 1, 1) := by decide +kernel
theorem dX8_copies_185 : decode cX8_copies 185 = .ok (.iadd, 1) := by decide +kernel
theorem dX8_copies_186 : decode cX8_copies 186 = .ok (.imul, 1) := by decide +kernel
theorem dX8_copies_187 : decode cX8_copies 187 = .ok (.iload_n 2, 1) := by decide +kernel
theorem dX8_copies_188 : decode cX8_copies 188 = .ok (.iadd, 1) := by decide +kernel
theorem dX8_copies_189 : decode cX8_copies 189 = .ok (.aload_n 0, 1) := by decide +kernel
theorem dX8_copies_190 : decode cX8_copies 190 = .ok (.getfield 93, 3) := by decide +kernel
theorem dX8_copies_193 : decode cX8_copies 193 = .ok (.bipush 40, 2) := by decide +kernel
theorem dX8_copies_195 : decode cX8_copies 195 = .ok (.iload_n 1, 1) := by decide +kernel
theorem dX8_copies_196 : decode cX8_copies 196 = .ok (.imul, 1) := by decide +kernel
theorem dX8_copies_197 : decode cX8_copies 197 = .ok (.iload_n 2, 1) := by decide +kernel
theorem dX8_copies_198 : decode cX8_copies 198 = .ok (.iadd, 1) := by decide +kernel
theorem dX8_copies_199 : decode cX8_copies 199 = .ok (.iaload, 1) := by decide +kernel
theorem dX8_copies_200 : decode cX8_copies 200 = .ok (.iastore, 1) := by decide +kernel
theorem dX8_copies_201 : decode cX8_copies 201 = .ok (.aload_n 0, 1) := by decide +kernel
theorem dX8_copies_202 : decode cX8_copies 202 = .ok (.getfield 96, 3) := by decide +kernel
theorem dX8_copies_205 : decode cX8_copies 205 = .ok (.bipush 40, 2) := by decide +kernel
theorem dX8_copies_207 : decode cX8_copies 207 = .ok (.bipush 8, 2) := by decide +kernel
theorem dX8_copies_209 : decode cX8_copies 209 = .ok (.iload_n 1, 1) := by decide +kernel
theorem dX8_copies_210 : decode cX8_copies 210 = .ok (.iadd, 1) := by decide +kernel
theorem dX8_copies_211 : decode cX8_copies 211 = .ok (.imul, 1) := by decide +kernel
theorem dX8_copies_212 : decode cX8_copies 212 = .ok (.iload_n 2, 1) := by decide +kernel
theorem dX8_copies_213 : decode cX8_copies 213 = .ok (.iadd, 1) := by decide +kernel
theorem dX8_copies_214 : decode cX8_copies 214 = .ok (.aload_n 0, 1) := by decide +kernel
theorem dX8_copies_215 : decode cX8_copies 215 = .ok (.getfield 96, 3) := by decide +kernel
theorem dX8_copies_218 : decode cX8_copies 218 = .ok (.bipush 40, 2) := by decide +kernel
theorem dX8_copies_220 : decode cX8_copies 220 = .ok (.iload_n 1, 1) := by decide +kernel
theorem dX8_copies_221 : decode cX8_copies 221 = .ok (.imul, 1) := by decide +kernel
theorem dX8_copies_222 : decode cX8_copies 222 = .ok (.iload_n 2, 1) := by decide +kernel
theorem dX8_copies_223 : decode cX8_copies 223 = .ok (.iadd, 1) := by decide +kernel
theorem dX8_copies_224 : decode cX8_copies 224 = .ok (.iaload, 1) := by decide +kernel
theorem dX8_copies_225 : decode cX8_copies 225 = .ok (.iastore, 1) := by decide +kernel
theorem dX8_copies_226 : decode cX8_copies 226 = .ok (.aload_n 0, 1) := by decide +kernel
theorem dX8_copies_227 : decode cX8_copies 227 = .ok (.getfield 99, 3) := by decide +kernel
theorem dX8_copies_230 : decode cX8_copies 230 = .ok (.bipush 40, 2) := by decide +kernel
theorem dX8_copies_232 : decode cX8_copies 232 = .ok (.bipush 8, 2) := by decide +kernel
theorem dX8_copies_234 : decode cX8_copies 234 = .ok (.iload_n 1, 1) := by decide +kernel
theorem dX8_copies_235 : decode cX8_copies 235 = .ok (.iadd, 1) := by decide +kernel
theorem dX8_copies_236 : decode cX8_copies 236 = .ok (.imul, 1) := by decide +kernel
theorem dX8_copies_237 : decode cX8_copies 237 = .ok (.iload_n 2, 1) := by decide +kernel
theorem dX8_copies_238 : decode cX8_copies 238 = .ok (.iadd, 1) := by decide +kernel
theorem dX8_copies_239 : decode cX8_copies 239 = .ok (.aload_n 0, 1) := by decide +kernel
theorem dX8_copies_240 : decode cX8_copies 240 = .ok (.getfield 99, 3) := by decide +kernel
theorem dX8_copies_243 : decode cX8_copies 243 = .ok (.bipush 40, 2) := by decide +kernel
theorem dX8_copies_245 : decode cX8_copies 245 = .ok (.iload_n 1, 1) := by decide +kernel
theorem dX8_copies_246 : decode cX8_copies 246 = .ok (.imul, 1) := by decide +kernel
theorem dX8_copies_247 : decode cX8_copies 247 = .ok (.iload_n 2, 1) := by decide +kernel
theorem dX8_copies_248 : decode cX8_copies 248 = .ok (.iadd, 1) := by decide +kernel
theorem dX8_copies_249 : decode cX8_copies 249 = .ok (.iaload, 1) := by decide +kernel
theorem dX8_copies_250 : decode cX8_copies 250 = .ok (.iastore, 1) := by decide +kernel
theorem dX8_copies_251 : decode cX8_copies 251 = .ok (.iinc 2 1, 3) := by decide +kernel
theorem dX8_copies_254 : decode cX8_copies 254 = .ok (.goto (-88), 3) := by decide +kernel
theorem dX8_copies_257 : decode cX8_copies 257 = .ok (.iinc 1 1, 3) := by decide +kernel
theorem dX8_copies_260 : decode cX8_copies 260 = .ok (.goto (-159), 3) := by decide +kernel
theorem dX8_copies_263 : decode cX8_copies 263 = .ok (.return_, 1) := by decide +kernel
theorem dX8_hungerIn_0 : decode cX8_hungerIn 0 = .ok (.lconst 0, 1) := by decide +kernel
theorem dX8_hungerIn_1 : decode cX8_hungerIn 1 = .ok (.lstore_n 2, 1) := by decide +kernel
theorem dX8_hungerIn_2 : decode cX8_hungerIn 2 = .ok (.iconst 0, 1) := by decide +kernel
theorem dX8_hungerIn_3 : decode cX8_hungerIn 3 = .ok (.istore 4, 2) := by decide +kernel
theorem dX8_hungerIn_5 : decode cX8_hungerIn 5 = .ok (.iload 4, 2) := by decide +kernel
theorem dX8_hungerIn_7 : decode cX8_hungerIn 7 = .ok (.aload_n 0, 1) := by decide +kernel
theorem dX8_hungerIn_8 : decode cX8_hungerIn 8 = .ok (.getfield 143, 3) := by decide +kernel
theorem dX8_hungerIn_11 : decode cX8_hungerIn 11 = .ok (.if_icmp .ge 24, 3) := by decide +kernel
theorem dX8_hungerIn_14 : decode cX8_hungerIn 14 = .ok (.lload_n 2, 1) := by decide +kernel
theorem dX8_hungerIn_15 : decode cX8_hungerIn 15 = .ok (.aload_n 0, 1) := by decide +kernel
theorem dX8_hungerIn_16 : decode cX8_hungerIn 16 = .ok (.getfield 75, 3) := by decide +kernel
theorem dX8_hungerIn_19 : decode cX8_hungerIn 19 = .ok (.bipush 8, 2) := by decide +kernel
theorem dX8_hungerIn_21 : decode cX8_hungerIn 21 = .ok (.iload_n 1, 1) := by decide +kernel
theorem dX8_hungerIn_22 : decode cX8_hungerIn 22 = .ok (.imul, 1) := by decide +kernel
theorem dX8_hungerIn_23 : decode cX8_hungerIn 23 = .ok (.iload 4, 2) := by decide +kernel
theorem dX8_hungerIn_25 : decode cX8_hungerIn 25 = .ok (.iadd, 1) := by decide +kernel
theorem dX8_hungerIn_26 : decode cX8_hungerIn 26 = .ok (.laload, 1) := by decide +kernel
theorem dX8_hungerIn_27 : decode cX8_hungerIn 27 = .ok (.ladd, 1) := by decide +kernel
theorem dX8_hungerIn_28 : decode cX8_hungerIn 28 = .ok (.lstore_n 2, 1) := by decide +kernel
theorem dX8_hungerIn_29 : decode cX8_hungerIn 29 = .ok (.iinc 4 1, 3) := by decide +kernel
theorem dX8_hungerIn_32 : decode cX8_hungerIn 32 = .ok (.goto (-27), 3) := by decide +kernel
theorem dX8_hungerIn_35 : decode cX8_hungerIn 35 = .ok (.lload_n 2, 1) := by decide +kernel
theorem dX8_hungerIn_36 : decode cX8_hungerIn 36 = .ok (.lreturn, 1) := by decide +kernel
theorem dX8_goesOn_0 : decode cX8_goesOn 0 = .ok (.iconst 0, 1) := by decide +kernel
theorem dX8_goesOn_1 : decode cX8_goesOn 1 = .ok (.istore_n 2, 1) := by decide +kernel
theorem dX8_goesOn_2 : decode cX8_goesOn 2 = .ok (.iload_n 2, 1) := by decide +kernel
theorem dX8_goesOn_3 : decode cX8_goesOn 3 = .ok (.iload_n 1, 1) := by decide +kernel
theorem dX8_goesOn_4 : decode cX8_goesOn 4 = .ok (.if_icmp .ge 18, 3) := by decide +kernel
theorem dX8_goesOn_7 : decode cX8_goesOn 7 = .ok (.aload_n 0, 1) := by decide +kernel
theorem dX8_goesOn_8 : decode cX8_goesOn 8 = .ok (.iconst 1, 1) := by decide +kernel
theorem dX8_goesOn_9 : decode cX8_goesOn 9 = .ok (.aload_n 0, 1) := by decide +kernel
theorem dX8_goesOn_10 : decode cX8_goesOn 10 = .ok (.getfield 17, 3) := by decide +kernel
theorem dX8_goesOn_13 : decode cX8_goesOn 13 = .ok (.invokevirtual 215, 3) := by decide +kernel
theorem dX8_goesOn_16 : decode cX8_goesOn 16 = .ok (.iinc 2 1, 3) := by decide +kernel
theorem dX8_goesOn_19 : decode cX8_goesOn 19 = .ok (.goto (-17), 3) := by decide +kernel
theorem dX8_goesOn_22 : decode cX8_goesOn 22 = .ok (.aload_n 0, 1) := by decide +kernel
theorem dX8_goesOn_23 : decode cX8_goesOn 23 = .ok (.iconst 1, 1) := by decide +kernel
theorem dX8_goesOn_24 : decode cX8_goesOn 24 = .ok (.invokevirtual 232, 3) := by decide +kernel
theorem dX8_goesOn_27 : decode cX8_goesOn 27 = .ok (.lreturn, 1) := by decide +kernel
theorem dX8_foretold_0 : decode cX8_foretold 0 = .ok (.iload_n 1, 1) := by decide +kernel
theorem dX8_foretold_1 : decode cX8_foretold 1 = .ok (.i2l, 1) := by decide +kernel
theorem dX8_foretold_2 : decode cX8_foretold 2 = .ok (.lconst 1, 1) := by decide +kernel
theorem dX8_foretold_3 : decode cX8_foretold 3 = .ok (.ldc2_w 213, 3) := by decide +kernel
theorem dX8_foretold_6 : decode cX8_foretold 6 = .ok (.invokestatic 120, 3) := by decide +kernel
theorem dX8_foretold_9 : decode cX8_foretold 9 = .ok (.ifCond .ne 7, 3) := by decide +kernel
theorem dX8_foretold_12 : decode cX8_foretold 12 = .ok (.ldc2_w 226, 3) := by decide +kernel
theorem dX8_foretold_15 : decode cX8_foretold 15 = .ok (.lreturn, 1) := by decide +kernel
theorem dX8_foretold_16 : decode cX8_foretold 16 = .ok (.aload_n 0, 1) := by decide +kernel
theorem dX8_foretold_17 : decode cX8_foretold 17 = .ok (.invokevirtual 235, 3) := by decide +kernel
theorem dX8_foretold_20 : decode cX8_foretold 20 = .ok (.aload_n 0, 1) := by decide +kernel
theorem dX8_foretold_21 : decode cX8_foretold 21 = .ok (.iload_n 1, 1) := by decide +kernel
theorem dX8_foretold_22 : decode cX8_foretold 22 = .ok (.invokevirtual 238, 3) := by decide +kernel
theorem dX8_foretold_25 : decode cX8_foretold 25 = .ok (.lreturn, 1) := by decide +kernel
theorem dX8_best_0 : decode cX8_best 0 = .ok (.aload_n 0, 1) := by decide +kernel
theorem dX8_best_1 : decode cX8_best 1 = .ok (.iload_n 1, 1) := by decide +kernel
theorem dX8_best_2 : decode cX8_best 2 = .ok (.invokevirtual 155, 3) := by decide +kernel
theorem dX8_best_5 : decode cX8_best 5 = .ok (.ifCond .eq 15, 3) := by decide +kernel
theorem dX8_best_8 : decode cX8_best 8 = .ok (.iload_n 2, 1) := by decide +kernel
theorem dX8_best_9 : decode cX8_best 9 = .ok (.i2l, 1) := by decide +kernel
theorem dX8_best_10 : decode cX8_best 10 = .ok (.lconst 1, 1) := by decide +kernel
theorem dX8_best_11 : decode cX8_best 11 = .ok (.ldc2_w 213, 3) := by decide +kernel
theorem dX8_best_14 : decode cX8_best 14 = .ok (.invokestatic 120, 3) := by decide +kernel
theorem dX8_best_17 : decode cX8_best 17 = .ok (.ifCond .ne 5, 3) := by decide +kernel
theorem dX8_best_20 : decode cX8_best 20 = .ok (.iconst (-1), 1) := by decide +kernel
theorem dX8_best_21 : decode cX8_best 21 = .ok (.ireturn, 1) := by decide +kernel
theorem dX8_best_22 : decode cX8_best 22 = .ok (.aload_n 0, 1) := by decide +kernel
theorem dX8_best_23 : decode cX8_best 23 = .ok (.invokevirtual 235, 3) := by decide +kernel
theorem dX8_best_26 : decode cX8_best 26 = .ok (.aload_n 0, 1) := by decide +kernel
theorem dX8_best_27 : decode cX8_best 27 = .ok (.iload_n 2, 1) := by decide +kernel
theorem dX8_best_28 : decode cX8_best 28 = .ok (.invokevirtual 238, 3) := by decide +kernel
theorem dX8_best_31 : decode cX8_best 31 = .ok (.lstore_n 3, 1) := by decide +kernel
theorem dX8_best_32 : decode cX8_best 32 = .ok (.iconst (-1), 1) := by decide +kernel
theorem dX8_best_33 : decode cX8_best 33 = .ok (.istore 5, 2) := by decide +kernel
theorem dX8_best_35 : decode cX8_best 35 = .ok (.iconst 0, 1) := by decide +kernel
theorem dX8_best_36 : decode cX8_best 36 = .ok (.istore 6, 2) := by decide +kernel
theorem dX8_best_38 : decode cX8_best 38 = .ok (.iload 6, 2) := by decide +kernel
theorem dX8_best_40 : decode cX8_best 40 = .ok (.aload_n 0, 1) := by decide +kernel
theorem dX8_best_41 : decode cX8_best 41 = .ok (.getfield 152, 3) := by decide +kernel
theorem dX8_best_44 : decode cX8_best 44 = .ok (.if_icmp .ge 104, 3) := by decide +kernel
theorem dX8_best_47 : decode cX8_best 47 = .ok (.aload_n 0, 1) := by decide +kernel
theorem dX8_best_48 : decode cX8_best 48 = .ok (.getfield 54, 3) := by decide +kernel
theorem dX8_best_51 : decode cX8_best 51 = .ok (.iconst 0, 1) := by decide +kernel
theorem dX8_best_52 : decode cX8_best 52 = .ok (.iaload, 1) := by decide +kernel
theorem dX8_best_53 : decode cX8_best 53 = .ok (.bipush 60, 2) := by decide +kernel
theorem dX8_best_55 : decode cX8_best 55 = .ok (.if_icmp .ge 93, 3) := by decide +kernel
theorem dX8_best_58 : decode cX8_best 58 = .ok (.aload_n 0, 1) := by decide +kernel
theorem dX8_best_59 : decode cX8_best 59 = .ok (.getfield 41, 3) := by decide +kernel
theorem dX8_best_62 : decode cX8_best 62 = .ok (.iload 6, 2) := by decide +kernel
theorem dX8_best_64 : decode cX8_best 64 = .ok (.iaload, 1) := by decide +kernel
theorem dX8_best_65 : decode cX8_best 65 = .ok (.aload_n 0, 1) := by decide +kernel
theorem dX8_best_66 : decode cX8_best 66 = .ok (.getfield 44, 3) := by decide +kernel
theorem dX8_best_69 : decode cX8_best 69 = .ok (.iload 6, 2) := by decide +kernel
theorem dX8_best_71 : decode cX8_best 71 = .ok (.iaload, 1) := by decide +kernel
theorem dX8_best_72 : decode cX8_best 72 = .ok (.isub, 1) := by decide +kernel
theorem dX8_best_73 : decode cX8_best 73 = .ok (.i2l, 1) := by decide +kernel
theorem dX8_best_74 : decode cX8_best 74 = .ok (.aload_n 0, 1) := by decide +kernel
theorem dX8_best_75 : decode cX8_best 75 = .ok (.iload_n 1, 1) := by decide +kernel
theorem dX8_best_76 : decode cX8_best 76 = .ok (.invokevirtual 169, 3) := by decide +kernel
theorem dX8_best_79 : decode cX8_best 79 = .ok (.invokestatic 177, 3) := by decide +kernel
theorem dX8_best_82 : decode cX8_best 82 = .ok (.l2i, 1) := by decide +kernel
theorem dX8_best_83 : decode cX8_best 83 = .ok (.istore 7, 2) := by decide +kernel
theorem dX8_best_85 : decode cX8_best 85 = .ok (.aload_n 0, 1) := by decide +kernel
theorem dX8_best_86 : decode cX8_best 86 = .ok (.iload 6, 2) := by decide +kernel
theorem dX8_best_88 : decode cX8_best 88 = .ok (.iload_n 1, 1) := by decide +kernel
theorem dX8_best_89 : decode cX8_best 89 = .ok (.invokevirtual 219, 3) := by decide +kernel
theorem dX8_best_92 : decode cX8_best 92 = .ok (.ifCond .eq 50, 3) := by decide +kernel
theorem dX8_best_95 : decode cX8_best 95 = .ok (.iload 7, 2) := by decide +kernel
theorem dX8_best_97 : decode cX8_best 97 = .ok (.iconst 1, 1) := by decide +kernel
theorem dX8_best_98 : decode cX8_best 98 = .ok (.if_icmp .ge 6, 3) := by decide +kernel
theorem dX8_best_101 : decode cX8_best 101 = .ok (.goto 41, 3) := by decide +kernel
theorem dX8_best_104 : decode cX8_best 104 = .ok (.aload_n 0, 1) := by decide +kernel
theorem dX8_best_105 : decode cX8_best 105 = .ok (.invokevirtual 235, 3) := by decide +kernel
theorem dX8_best_108 : decode cX8_best 108 = .ok (.aload_n 0, 1) := by decide +kernel
theorem dX8_best_109 : decode cX8_best 109 = .ok (.iconst 1, 1) := by decide +kernel
theorem dX8_best_110 : decode cX8_best 110 = .ok (.iload_n 1, 1) := by decide +kernel
theorem dX8_best_111 : decode cX8_best 111 = .ok (.iload 6, 2) := by decide +kernel
theorem dX8_best_113 : decode cX8_best 113 = .ok (.iload 7, 2) := by decide +kernel
theorem dX8_best_115 : decode cX8_best 115 = .ok (.invokevirtual 222, 3) := by decide +kernel
theorem dX8_best_118 : decode cX8_best 118 = .ok (.aload_n 0, 1) := by decide +kernel
theorem dX8_best_119 : decode cX8_best 119 = .ok (.iload_n 2, 1) := by decide +kernel
theorem dX8_best_120 : decode cX8_best 120 = .ok (.invokevirtual 238, 3) := by decide +kernel
theorem dX8_best_123 : decode cX8_best 123 = .ok (.lstore 8, 2) := by decide +kernel
theorem dX8_best_125 : decode cX8_best 125 = .ok (.lload 8, 2) := by decide +kernel
theorem dX8_best_127 : decode cX8_best 127 = .ok (.lload_n 3, 1) := by decide +kernel
theorem dX8_best_128 : decode cX8_best 128 = .ok (.lcmp, 1) := by decide +kernel
theorem dX8_best_129 : decode cX8_best 129 = .ok (.ifCond .lt 6, 3) := by decide +kernel
theorem dX8_best_132 : decode cX8_best 132 = .ok (.goto 10, 3) := by decide +kernel
theorem dX8_best_135 : decode cX8_best 135 = .ok (.lload 8, 2) := by decide +kernel
theorem dX8_best_137 : decode cX8_best 137 = .ok (.lstore_n 3, 1) := by decide +kernel
theorem dX8_best_138 : decode cX8_best 138 = .ok (.iload 6, 2) := by decide +kernel
theorem dX8_best_140 : decode cX8_best 140 = .ok (.istore 5, 2) := by decide +kernel
theorem dX8_best_142 : decode cX8_best 142 = .ok (.iinc 6 1, 3) := by decide +kernel
theorem dX8_best_145 : decode cX8_best 145 = .ok (.goto (-107), 3) := by decide +kernel
theorem dX8_best_148 : decode cX8_best 148 = .ok (.iload 5, 2) := by decide +kernel
theorem dX8_best_150 : decode cX8_best 150 = .ok (.ireturn, 1) := by decide +kernel
theorem dX8_look_0 : decode cX8_look 0 = .ok (.aload_n 0, 1) := by decide +kernel
theorem dX8_look_1 : decode cX8_look 1 = .ok (.iload_n 1, 1) := by decide +kernel
theorem dX8_look_2 : decode cX8_look 2 = .ok (.invokevirtual 155, 3) := by decide +kernel
theorem dX8_look_5 : decode cX8_look 5 = .ok (.ifCond .ne 7, 3) := by decide +kernel
theorem dX8_look_8 : decode cX8_look 8 = .ok (.ldc2_w 226, 3) := by decide +kernel
theorem dX8_look_11 : decode cX8_look 11 = .ok (.lreturn, 1) := by decide +kernel
theorem dX8_look_12 : decode cX8_look 12 = .ok (.iload_n 2, 1) := by decide +kernel
theorem dX8_look_13 : decode cX8_look 13 = .ok (.tableswitch 160 0 12 #[67, 75, 82, 90, 97, 105, 111, 118, 125, 132, 139, 146, 153], 67) := by decide +kernel
theorem dX8_look_80 : decode cX8_look 80 = .ok (.aload_n 0, 1) := by decide +kernel
theorem dX8_look_81 : decode cX8_look 81 = .ok (.getfield 23, 3) := by decide +kernel
theorem dX8_look_84 : decode cX8_look 84 = .ok (.iload_n 1, 1) := by decide +kernel
theorem dX8_look_85 : decode cX8_look 85 = .ok (.iaload, 1) := by decide +kernel
theorem dX8_look_86 : decode cX8_look 86 = .ok (.i2l, 1) := by decide +kernel
theorem dX8_look_87 : decode cX8_look 87 = .ok (.lreturn, 1) := by decide +kernel
theorem dX8_look_88 : decode cX8_look 88 = .ok (.aload_n 0, 1) := by decide +kernel
theorem dX8_look_89 : decode cX8_look 89 = .ok (.getfield 66, 3) := by decide +kernel
theorem dX8_look_92 : decode cX8_look 92 = .ok (.iload_n 1, 1) := by decide +kernel
theorem dX8_look_93 : decode cX8_look 93 = .ok (.laload, 1) := by decide +kernel
theorem dX8_look_94 : decode cX8_look 94 = .ok (.lreturn, 1) := by decide +kernel
theorem dX8_look_95 : decode cX8_look 95 = .ok (.aload_n 0, 1) := by decide +kernel
theorem dX8_look_96 : decode cX8_look 96 = .ok (.getfield 26, 3) := by decide +kernel
theorem dX8_look_99 : decode cX8_look 99 = .ok (.iload_n 1, 1) := by decide +kernel
theorem dX8_look_100 : decode cX8_look 100 = .ok (.iaload, 1) := by decide +kernel
theorem dX8_look_101 : decode cX8_look 101 = .ok (.i2l, 1) := by decide +kernel
theorem dX8_look_102 : decode cX8_look 102 = .ok (.lreturn, 1) := by decide +kernel
theorem dX8_look_103 : decode cX8_look 103 = .ok (.aload_n 0, 1) := by decide +kernel
theorem dX8_look_104 : decode cX8_look 104 = .ok (.iload_n 1, 1) := by decide +kernel
theorem dX8_look_105 : decode cX8_look 105 = .ok (.iload_n 1, 1) := by decide +kernel
theorem dX8_look_106 : decode cX8_look 106 = .ok (.invokevirtual 185, 3) := by decide +kernel
theorem dX8_look_109 : decode cX8_look 109 = .ok (.lreturn, 1) := by decide +kernel
theorem dX8_look_110 : decode cX8_look 110 = .ok (.aload_n 0, 1) := by decide +kernel
theorem dX8_look_111 : decode cX8_look 111 = .ok (.getfield 69, 3) := by decide +kernel
theorem dX8_look_114 : decode cX8_look 114 = .ok (.iload_n 1, 1) := by decide +kernel
theorem dX8_look_115 : decode cX8_look 115 = .ok (.iaload, 1) := by decide +kernel
theorem dX8_look_116 : decode cX8_look 116 = .ok (.i2l, 1) := by decide +kernel
theorem dX8_look_117 : decode cX8_look 117 = .ok (.lreturn, 1) := by decide +kernel
theorem dX8_look_118 : decode cX8_look 118 = .ok (.aload_n 0, 1) := by decide +kernel
theorem dX8_look_119 : decode cX8_look 119 = .ok (.iload_n 1, 1) := by decide +kernel
theorem dX8_look_120 : decode cX8_look 120 = .ok (.invokevirtual 169, 3) := by decide +kernel
theorem dX8_look_123 : decode cX8_look 123 = .ok (.lreturn, 1) := by decide +kernel
theorem dX8_look_124 : decode cX8_look 124 = .ok (.aload_n 0, 1) := by decide +kernel
theorem dX8_look_125 : decode cX8_look 125 = .ok (.iload_n 1, 1) := by decide +kernel
theorem dX8_look_126 : decode cX8_look 126 = .ok (.iconst 1, 1) := by decide +kernel
theorem dX8_look_127 : decode cX8_look 127 = .ok (.invokevirtual 228, 3) := by decide +kernel
theorem dX8_look_130 : decode cX8_look 130 = .ok (.lreturn, 1) := by decide +kernel
theorem dX8_look_131 : decode cX8_look 131 = .ok (.aload_n 0, 1) := by decide +kernel
theorem dX8_look_132 : decode cX8_look 132 = .ok (.getfield 75, 3) := by decide +kernel
theorem dX8_look_135 : decode cX8_look 135 = .ok (.iload_n 1, 1) := by decide +kernel
theorem dX8_look_136 : decode cX8_look 136 = .ok (.laload, 1) := by decide +kernel
theorem dX8_look_137 : decode cX8_look 137 = .ok (.lreturn, 1) := by decide +kernel
theorem dX8_look_138 : decode cX8_look 138 = .ok (.aload_n 0, 1) := by decide +kernel
theorem dX8_look_139 : decode cX8_look 139 = .ok (.getfield 78, 3) := by decide +kernel
theorem dX8_look_142 : decode cX8_look 142 = .ok (.iload_n 1, 1) := by decide +kernel
theorem dX8_look_143 : decode cX8_look 143 = .ok (.laload, 1) := by decide +kernel
theorem dX8_look_144 : decode cX8_look 144 = .ok (.lreturn, 1) := by decide +kernel
theorem dX8_look_145 : decode cX8_look 145 = .ok (.aload_n 0, 1) := by decide +kernel
theorem dX8_look_146 : decode cX8_look 146 = .ok (.getfield 81, 3) := by decide +kernel
theorem dX8_look_149 : decode cX8_look 149 = .ok (.iload_n 1, 1) := by decide +kernel
theorem dX8_look_150 : decode cX8_look 150 = .ok (.laload, 1) := by decide +kernel
theorem dX8_look_151 : decode cX8_look 151 = .ok (.lreturn, 1) := by decide +kernel
theorem dX8_look_152 : decode cX8_look 152 = .ok (.aload_n 0, 1) := by decide +kernel
theorem dX8_look_153 : decode cX8_look 153 = .ok (.getfield 84, 3) := by decide +kernel
theorem dX8_look_156 : decode cX8_look 156 = .ok (.iload_n 1, 1) := by decide +kernel
theorem dX8_look_157 : decode cX8_look 157 = .ok (.laload, 1) := by decide +kernel
theorem dX8_look_158 : decode cX8_look 158 = .ok (.lreturn, 1) := by decide +kernel
theorem dX8_look_159 : decode cX8_look 159 = .ok (.aload_n 0, 1) := by decide +kernel
theorem dX8_look_160 : decode cX8_look 160 = .ok (.getfield 87, 3) := by decide +kernel
theorem dX8_look_163 : decode cX8_look 163 = .ok (.iload_n 1, 1) := by decide +kernel
theorem dX8_look_164 : decode cX8_look 164 = .ok (.laload, 1) := by decide +kernel
theorem dX8_look_165 : decode cX8_look 165 = .ok (.lreturn, 1) := by decide +kernel
theorem dX8_look_166 : decode cX8_look 166 = .ok (.aload_n 0, 1) := by decide +kernel
theorem dX8_look_167 : decode cX8_look 167 = .ok (.getfield 90, 3) := by decide +kernel
theorem dX8_look_170 : decode cX8_look 170 = .ok (.iload_n 1, 1) := by decide +kernel
theorem dX8_look_171 : decode cX8_look 171 = .ok (.laload, 1) := by decide +kernel
theorem dX8_look_172 : decode cX8_look 172 = .ok (.lreturn, 1) := by decide +kernel
theorem dX8_look_173 : decode cX8_look 173 = .ok (.ldc2_w 226, 3) := by decide +kernel
theorem dX8_look_176 : decode cX8_look 176 = .ok (.lreturn, 1) := by decide +kernel
theorem dX8_lot_0 : decode cX8_lot 0 = .ok (.aload_n 0, 1) := by decide +kernel
theorem dX8_lot_1 : decode cX8_lot 1 = .ok (.iload_n 1, 1) := by decide +kernel
theorem dX8_lot_2 : decode cX8_lot 2 = .ok (.invokevirtual 155, 3) := by decide +kernel
theorem dX8_lot_5 : decode cX8_lot 5 = .ok (.ifCond .eq 21, 3) := by decide +kernel
theorem dX8_lot_8 : decode cX8_lot 8 = .ok (.iload_n 2, 1) := by decide +kernel
theorem dX8_lot_9 : decode cX8_lot 9 = .ok (.i2l, 1) := by decide +kernel
theorem dX8_lot_10 : decode cX8_lot 10 = .ok (.lconst 0, 1) := by decide +kernel
theorem dX8_lot_11 : decode cX8_lot 11 = .ok (.aload_n 0, 1) := by decide +kernel
theorem dX8_lot_12 : decode cX8_lot 12 = .ok (.getfield 69, 3) := by decide +kernel
theorem dX8_lot_15 : decode cX8_lot 15 = .ok (.iload_n 1, 1) := by decide +kernel
theorem dX8_lot_16 : decode cX8_lot 16 = .ok (.iaload, 1) := by decide +kernel
theorem dX8_lot_17 : decode cX8_lot 17 = .ok (.iconst 1, 1) := by decide +kernel
theorem dX8_lot_18 : decode cX8_lot 18 = .ok (.isub, 1) := by decide +kernel
theorem dX8_lot_19 : decode cX8_lot 19 = .ok (.i2l, 1) := by decide +kernel
theorem dX8_lot_20 : decode cX8_lot 20 = .ok (.invokestatic 120, 3) := by decide +kernel
theorem dX8_lot_23 : decode cX8_lot 23 = .ok (.ifCond .ne 5, 3) := by decide +kernel
theorem dX8_lot_26 : decode cX8_lot 26 = .ok (.iconst (-1), 1) := by decide +kernel
theorem dX8_lot_27 : decode cX8_lot 27 = .ok (.ireturn, 1) := by decide +kernel
theorem dX8_lot_28 : decode cX8_lot 28 = .ok (.bipush 40, 2) := by decide +kernel
theorem dX8_lot_30 : decode cX8_lot 30 = .ok (.iload_n 1, 1) := by decide +kernel
theorem dX8_lot_31 : decode cX8_lot 31 = .ok (.imul, 1) := by decide +kernel
theorem dX8_lot_32 : decode cX8_lot 32 = .ok (.iload_n 2, 1) := by decide +kernel
theorem dX8_lot_33 : decode cX8_lot 33 = .ok (.iadd, 1) := by decide +kernel
theorem dX8_lot_34 : decode cX8_lot 34 = .ok (.istore 4, 2) := by decide +kernel
theorem dX8_lot_36 : decode cX8_lot 36 = .ok (.iload_n 3, 1) := by decide +kernel
theorem dX8_lot_37 : decode cX8_lot 37 = .ok (.ifCond .ne 13, 3) := by decide +kernel
theorem dX8_lot_40 : decode cX8_lot 40 = .ok (.aload_n 0, 1) := by decide +kernel
theorem dX8_lot_41 : decode cX8_lot 41 = .ok (.getfield 93, 3) := by decide +kernel
theorem dX8_lot_44 : decode cX8_lot 44 = .ok (.iload 4, 2) := by decide +kernel
theorem dX8_lot_46 : decode cX8_lot 46 = .ok (.iaload, 1) := by decide +kernel
theorem dX8_lot_47 : decode cX8_lot 47 = .ok (.goto 42, 3) := by decide +kernel
theorem dX8_lot_50 : decode cX8_lot 50 = .ok (.iload_n 3, 1) := by decide +kernel
theorem dX8_lot_51 : decode cX8_lot 51 = .ok (.iconst 1, 1) := by decide +kernel
theorem dX8_lot_52 : decode cX8_lot 52 = .ok (.if_icmp .ne 13, 3) := by decide +kernel
theorem dX8_lot_55 : decode cX8_lot 55 = .ok (.aload_n 0, 1) := by decide +kernel
theorem dX8_lot_56 : decode cX8_lot 56 = .ok (.getfield 96, 3) := by decide +kernel
theorem dX8_lot_59 : decode cX8_lot 59 = .ok (.iload 4, 2) := by decide +kernel
theorem dX8_lot_61 : decode cX8_lot 61 = .ok (.iaload, 1) := by decide +kernel
theorem dX8_lot_62 : decode cX8_lot 62 = .ok (.goto 27, 3) := by decide +kernel
theorem dX8_lot_65 : decode cX8_lot 65 = .ok (.iload_n 3, 1) := by decide +kernel
theorem dX8_lot_66 : decode cX8_lot 66 = .ok (.iconst 2, 1) := by decide +kernel
theorem dX8_lot_67 : decode cX8_lot 67 = .ok (.if_icmp .ne 21, 3) := by decide +kernel
theorem dX8_lot_70 : decode cX8_lot 70 = .ok (.aload_n 0, 1) := by decide +kernel
theorem dX8_lot_71 : decode cX8_lot 71 = .ok (.getfield 102, 3) := by decide +kernel
theorem dX8_lot_74 : decode cX8_lot 74 = .ok (.iload 4, 2) := by decide +kernel
theorem dX8_lot_76 : decode cX8_lot 76 = .ok (.baload, 1) := by decide +kernel
theorem dX8_lot_77 : decode cX8_lot 77 = .ok (.ifCond .eq 7, 3) := by decide +kernel
theorem dX8_lot_80 : decode cX8_lot 80 = .ok (.iconst 1, 1) := by decide +kernel
theorem dX8_lot_81 : decode cX8_lot 81 = .ok (.goto 8, 3) := by decide +kernel
theorem dX8_lot_84 : decode cX8_lot 84 = .ok (.iconst 0, 1) := by decide +kernel
theorem dX8_lot_85 : decode cX8_lot 85 = .ok (.goto 4, 3) := by decide +kernel
theorem dX8_lot_88 : decode cX8_lot 88 = .ok (.iconst (-1), 1) := by decide +kernel
theorem dX8_lot_89 : decode cX8_lot 89 = .ok (.ireturn, 1) := by decide +kernel
theorem dX8_count_0 : decode cX8_count 0 = .ok (.lconst 0, 1) := by decide +kernel
theorem dX8_count_1 : decode cX8_count 1 = .ok (.lstore_n 2, 1) := by decide +kernel
theorem dX8_count_2 : decode cX8_count 2 = .ok (.iload_n 1, 1) := by decide +kernel
theorem dX8_count_3 : decode cX8_count 3 = .ok (.bipush 10, 2) := by decide +kernel
theorem dX8_count_5 : decode cX8_count 5 = .ok (.isub, 1) := by decide +kernel
theorem dX8_count_6 : decode cX8_count 6 = .ok (.i2l, 1) := by decide +kernel
theorem dX8_count_7 : decode cX8_count 7 = .ok (.lconst 0, 1) := by decide +kernel
theorem dX8_count_8 : decode cX8_count 8 = .ok (.aload_n 0, 1) := by decide +kernel
theorem dX8_count_9 : decode cX8_count 9 = .ok (.getfield 152, 3) := by decide +kernel
theorem dX8_count_12 : decode cX8_count 12 = .ok (.iconst 1, 1) := by decide +kernel
theorem dX8_count_13 : decode cX8_count 13 = .ok (.isub, 1) := by decide +kernel
theorem dX8_count_14 : decode cX8_count 14 = .ok (.i2l, 1) := by decide +kernel
theorem dX8_count_15 : decode cX8_count 15 = .ok (.invokestatic 120, 3) := by decide +kernel
theorem dX8_count_18 : decode cX8_count 18 = .ok (.ifCond .eq 14, 3) := by decide +kernel
theorem dX8_count_21 : decode cX8_count 21 = .ok (.aload_n 0, 1) := by decide +kernel
theorem dX8_count_22 : decode cX8_count 22 = .ok (.getfield 44, 3) := by decide +kernel
theorem dX8_count_25 : decode cX8_count 25 = .ok (.iload_n 1, 1) := by decide +kernel
theorem dX8_count_26 : decode cX8_count 26 = .ok (.bipush 10, 2) := by decide +kernel
theorem dX8_count_28 : decode cX8_count 28 = .ok (.isub, 1) := by decide +kernel
theorem dX8_count_29 : decode cX8_count 29 = .ok (.iaload, 1) := by decide +kernel
theorem dX8_count_30 : decode cX8_count 30 = .ok (.i2l, 1) := by decide +kernel
theorem dX8_count_31 : decode cX8_count 31 = .ok (.lreturn, 1) := by decide +kernel
theorem dX8_count_32 : decode cX8_count 32 = .ok (.iload_n 1, 1) := by decide +kernel
theorem dX8_count_33 : decode cX8_count 33 = .ok (.tableswitch 115 0 6 #[43, 51, 57, 63, 70, 103, 109], 43) := by decide +kernel
theorem dX8_count_76 : decode cX8_count 76 = .ok (.aload_n 0, 1) := by decide +kernel
theorem dX8_count_77 : decode cX8_count 77 = .ok (.getfield 47, 3) := by decide +kernel
theorem dX8_count_80 : decode cX8_count 80 = .ok (.iconst 0, 1) := by decide +kernel
theorem dX8_count_81 : decode cX8_count 81 = .ok (.iaload, 1) := by decide +kernel
theorem dX8_count_82 : decode cX8_count 82 = .ok (.i2l, 1) := by decide +kernel
theorem dX8_count_83 : decode cX8_count 83 = .ok (.lreturn, 1) := by decide +kernel
theorem dX8_count_84 : decode cX8_count 84 = .ok (.aload_n 0, 1) := by decide +kernel
theorem dX8_count_85 : decode cX8_count 85 = .ok (.getfield 143, 3) := by decide +kernel
theorem dX8_count_88 : decode cX8_count 88 = .ok (.i2l, 1) := by decide +kernel
theorem dX8_count_89 : decode cX8_count 89 = .ok (.lreturn, 1) := by decide +kernel
theorem dX8_count_90 : decode cX8_count 90 = .ok (.aload_n 0, 1) := by decide +kernel
theorem dX8_count_91 : decode cX8_count 91 = .ok (.getfield 152, 3) := by decide +kernel
theorem dX8_count_94 : decode cX8_count 94 = .ok (.i2l, 1) := by decide +kernel
theorem dX8_count_95 : decode cX8_count 95 = .ok (.lreturn, 1) := by decide +kernel
theorem dX8_count_96 : decode cX8_count 96 = .ok (.aload_n 0, 1) := by decide +kernel
theorem dX8_count_97 : decode cX8_count 97 = .ok (.getfield 50, 3) := by decide +kernel
theorem dX8_count_100 : decode cX8_count 100 = .ok (.iconst 0, 1) := by decide +kernel
theorem dX8_count_101 : decode cX8_count 101 = .ok (.laload, 1) := by decide +kernel
theorem dX8_count_102 : decode cX8_count 102 = .ok (.lreturn, 1) := by decide +kernel
theorem dX8_count_103 : decode cX8_count 103 = .ok (.iconst 0, 1) := by decide +kernel
theorem dX8_count_104 : decode cX8_count 104 = .ok (.istore 4, 2) := by decide +kernel
theorem dX8_count_106 : decode cX8_count 106 = .ok (.iload 4, 2) := by decide +kernel
theorem dX8_count_108 : decode cX8_count 108 = .ok (.aload_n 0, 1) := by decide +kernel
theorem dX8_count_109 : decode cX8_count 109 = .ok (.getfield 54, 3) := by decide +kernel
theorem dX8_count_112 : decode cX8_count 112 = .ok (.iconst 0, 1) := by decide +kernel
theorem dX8_count_113 : decode cX8_count 113 = .ok (.iaload, 1) := by decide +kernel
theorem dX8_count_114 : decode cX8_count 114 = .ok (.if_icmp .ge 20, 3) := by decide +kernel
theorem dX8_count_117 : decode cX8_count 117 = .ok (.lload_n 2, 1) := by decide +kernel
theorem dX8_count_118 : decode cX8_count 118 = .ok (.aload_n 0, 1) := by decide +kernel
theorem dX8_count_119 : decode cX8_count 119 = .ok (.getfield 63, 3) := by decide +kernel
theorem dX8_count_122 : decode cX8_count 122 = .ok (.iload 4, 2) := by decide +kernel
theorem dX8_count_124 : decode cX8_count 124 = .ok (.iaload, 1) := by decide +kernel
theorem dX8_count_125 : decode cX8_count 125 = .ok (.i2l, 1) := by decide +kernel
theorem dX8_count_126 : decode cX8_count 126 = .ok (.ladd, 1) := by decide +kernel
theorem dX8_count_127 : decode cX8_count 127 = .ok (.lstore_n 2, 1) := by decide +kernel
theorem dX8_count_128 : decode cX8_count 128 = .ok (.iinc 4 1, 3) := by decide +kernel
theorem dX8_count_131 : decode cX8_count 131 = .ok (.goto (-25), 3) := by decide +kernel
theorem dX8_count_134 : decode cX8_count 134 = .ok (.lload_n 2, 1) := by decide +kernel
theorem dX8_count_135 : decode cX8_count 135 = .ok (.lreturn, 1) := by decide +kernel
theorem dX8_count_136 : decode cX8_count 136 = .ok (.aload_n 0, 1) := by decide +kernel
theorem dX8_count_137 : decode cX8_count 137 = .ok (.getfield 110, 3) := by decide +kernel
theorem dX8_count_140 : decode cX8_count 140 = .ok (.i2l, 1) := by decide +kernel
theorem dX8_count_141 : decode cX8_count 141 = .ok (.lreturn, 1) := by decide +kernel
theorem dX8_count_142 : decode cX8_count 142 = .ok (.aload_n 0, 1) := by decide +kernel
theorem dX8_count_143 : decode cX8_count 143 = .ok (.iconst 0, 1) := by decide +kernel
theorem dX8_count_144 : decode cX8_count 144 = .ok (.invokevirtual 232, 3) := by decide +kernel
theorem dX8_count_147 : decode cX8_count 147 = .ok (.lreturn, 1) := by decide +kernel
theorem dX8_count_148 : decode cX8_count 148 = .ok (.ldc2_w 226, 3) := by decide +kernel
theorem dX8_count_151 : decode cX8_count 151 = .ok (.lreturn, 1) := by decide +kernel
end
section
theorem dX0_init_0 : decode cX0_init 0 = .ok (.aload_n 0, 1) := by decide +kernel
theorem dX0_init_1 : decode cX0_init 1 = .ok (.invokespecial 3, 3) := by decide +kernel
theorem dX0_init_4 : decode cX0_init 4 = .ok (.aload_n 0, 1) := by decide +kernel
theorem dX0_init_5 : decode cX0_init 5 = .ok (.bipush 60, 2) := by decide +kernel
theorem dX0_init_7 : decode cX0_init 7 = .ok (.newarray .int, 2) := by decide +kernel
theorem dX0_init_9 : decode cX0_init 9 = .ok (.putfield 11, 3) := by decide +kernel
theorem dX0_init_12 : decode cX0_init 12 = .ok (.aload_n 0, 1) := by decide +kernel
theorem dX0_init_13 : decode cX0_init 13 = .ok (.bipush 60, 2) := by decide +kernel
theorem dX0_init_15 : decode cX0_init 15 = .ok (.newarray .int, 2) := by decide +kernel
theorem dX0_init_17 : decode cX0_init 17 = .ok (.putfield 15, 3) := by decide +kernel
theorem dX0_init_20 : decode cX0_init 20 = .ok (.aload_n 0, 1) := by decide +kernel
theorem dX0_init_21 : decode cX0_init 21 = .ok (.bipush 60, 2) := by decide +kernel
theorem dX0_init_23 : decode cX0_init 23 = .ok (.newarray .int, 2) := by decide +kernel
theorem dX0_init_25 : decode cX0_init 25 = .ok (.putfield 18, 3) := by decide +kernel
theorem dX0_init_28 : decode cX0_init 28 = .ok (.return_, 1) := by decide +kernel
theorem dX0_size_0 : decode cX0_size 0 = .ok (.aload_n 0, 1) := by decide +kernel
theorem dX0_size_1 : decode cX0_size 1 = .ok (.getfield 21, 3) := by decide +kernel
theorem dX0_size_4 : decode cX0_size 4 = .ok (.ireturn, 1) := by decide +kernel
theorem dX0_isFull_0 : decode cX0_isFull 0 = .ok (.aload_n 0, 1) := by decide +kernel
theorem dX0_isFull_1 : decode cX0_isFull 1 = .ok (.getfield 21, 3) := by decide +kernel
theorem dX0_isFull_4 : decode cX0_isFull 4 = .ok (.bipush 60, 2) := by decide +kernel
theorem dX0_isFull_6 : decode cX0_isFull 6 = .ok (.if_icmp .lt 7, 3) := by decide +kernel
theorem dX0_isFull_9 : decode cX0_isFull 9 = .ok (.iconst 1, 1) := by decide +kernel
theorem dX0_isFull_10 : decode cX0_isFull 10 = .ok (.goto 4, 3) := by decide +kernel
theorem dX0_isFull_13 : decode cX0_isFull 13 = .ok (.iconst 0, 1) := by decide +kernel
theorem dX0_isFull_14 : decode cX0_isFull 14 = .ok (.ireturn, 1) := by decide +kernel
theorem dX0_add_0 : decode cX0_add 0 = .ok (.aload_n 0, 1) := by decide +kernel
theorem dX0_add_1 : decode cX0_add 1 = .ok (.invokevirtual 25, 3) := by decide +kernel
theorem dX0_add_4 : decode cX0_add 4 = .ok (.ifCond .eq 4, 3) := by decide +kernel
theorem dX0_add_7 : decode cX0_add 7 = .ok (.return_, 1) := by decide +kernel
theorem dX0_add_8 : decode cX0_add 8 = .ok (.aload_n 0, 1) := by decide +kernel
theorem dX0_add_9 : decode cX0_add 9 = .ok (.getfield 11, 3) := by decide +kernel
theorem dX0_add_12 : decode cX0_add 12 = .ok (.aload_n 0, 1) := by decide +kernel
theorem dX0_add_13 : decode cX0_add 13 = .ok (.getfield 21, 3) := by decide +kernel
theorem dX0_add_16 : decode cX0_add 16 = .ok (.iload_n 1, 1) := by decide +kernel
theorem dX0_add_17 : decode cX0_add 17 = .ok (.iastore, 1) := by decide +kernel
theorem dX0_add_18 : decode cX0_add 18 = .ok (.aload_n 0, 1) := by decide +kernel
theorem dX0_add_19 : decode cX0_add 19 = .ok (.getfield 15, 3) := by decide +kernel
theorem dX0_add_22 : decode cX0_add 22 = .ok (.aload_n 0, 1) := by decide +kernel
theorem dX0_add_23 : decode cX0_add 23 = .ok (.getfield 21, 3) := by decide +kernel
theorem dX0_add_26 : decode cX0_add 26 = .ok (.iload_n 2, 1) := by decide +kernel
theorem dX0_add_27 : decode cX0_add 27 = .ok (.iastore, 1) := by decide +kernel
theorem dX0_add_28 : decode cX0_add 28 = .ok (.aload_n 0, 1) := by decide +kernel
theorem dX0_add_29 : decode cX0_add 29 = .ok (.getfield 18, 3) := by decide +kernel
theorem dX0_add_32 : decode cX0_add 32 = .ok (.aload_n 0, 1) := by decide +kernel
theorem dX0_add_33 : decode cX0_add 33 = .ok (.getfield 21, 3) := by decide +kernel
theorem dX0_add_36 : decode cX0_add 36 = .ok (.iload_n 3, 1) := by decide +kernel
theorem dX0_add_37 : decode cX0_add 37 = .ok (.iastore, 1) := by decide +kernel
theorem dX0_add_38 : decode cX0_add 38 = .ok (.aload_n 0, 1) := by decide +kernel
theorem dX0_add_39 : decode cX0_add 39 = .ok (.dup, 1) := by decide +kernel
theorem dX0_add_40 : decode cX0_add 40 = .ok (.getfield 21, 3) := by decide +kernel
theorem dX0_add_43 : decode cX0_add 43 = .ok (.iconst 1, 1) := by decide +kernel
theorem dX0_add_44 : decode cX0_add 44 = .ok (.iadd, 1) := by decide +kernel
theorem dX0_add_45 : decode cX0_add 45 = .ok (.putfield 21, 3) := by decide +kernel
theorem dX0_add_48 : decode cX0_add 48 = .ok (.return_, 1) := by decide +kernel
theorem dX0_arrives_0 : decode cX0_arrives 0 = .ok (.aload_n 0, 1) := by decide +kernel
theorem dX0_arrives_1 : decode cX0_arrives 1 = .ok (.iload_n 1, 1) := by decide +kernel
theorem dX0_arrives_2 : decode cX0_arrives 2 = .ok (.invokevirtual 29, 3) := by decide +kernel
theorem dX0_arrives_5 : decode cX0_arrives 5 = .ok (.ifCond .eq 17, 3) := by decide +kernel
theorem dX0_arrives_8 : decode cX0_arrives 8 = .ok (.aload_n 0, 1) := by decide +kernel
theorem dX0_arrives_9 : decode cX0_arrives 9 = .ok (.getfield 15, 3) := by decide +kernel
theorem dX0_arrives_12 : decode cX0_arrives 12 = .ok (.iload_n 1, 1) := by decide +kernel
theorem dX0_arrives_13 : decode cX0_arrives 13 = .ok (.iaload, 1) := by decide +kernel
theorem dX0_arrives_14 : decode cX0_arrives 14 = .ok (.iload_n 2, 1) := by decide +kernel
theorem dX0_arrives_15 : decode cX0_arrives 15 = .ok (.if_icmp .gt 7, 3) := by decide +kernel
theorem dX0_arrives_18 : decode cX0_arrives 18 = .ok (.iconst 1, 1) := by decide +kernel
theorem dX0_arrives_19 : decode cX0_arrives 19 = .ok (.goto 4, 3) := by decide +kernel
theorem dX0_arrives_22 : decode cX0_arrives 22 = .ok (.iconst 0, 1) := by decide +kernel
theorem dX0_arrives_23 : decode cX0_arrives 23 = .ok (.ireturn, 1) := by decide +kernel
theorem dX0_targetOf_0 : decode cX0_targetOf 0 = .ok (.aload_n 0, 1) := by decide +kernel
theorem dX0_targetOf_1 : decode cX0_targetOf 1 = .ok (.iload_n 1, 1) := by decide +kernel
theorem dX0_targetOf_2 : decode cX0_targetOf 2 = .ok (.invokevirtual 29, 3) := by decide +kernel
theorem dX0_targetOf_5 : decode cX0_targetOf 5 = .ok (.ifCond .eq 12, 3) := by decide +kernel
theorem dX0_targetOf_8 : decode cX0_targetOf 8 = .ok (.aload_n 0, 1) := by decide +kernel
theorem dX0_targetOf_9 : decode cX0_targetOf 9 = .ok (.getfield 11, 3) := by decide +kernel
theorem dX0_targetOf_12 : decode cX0_targetOf 12 = .ok (.iload_n 1, 1) := by decide +kernel
theorem dX0_targetOf_13 : decode cX0_targetOf 13 = .ok (.iaload, 1) := by decide +kernel
theorem dX0_targetOf_14 : decode cX0_targetOf 14 = .ok (.goto 4, 3) := by decide +kernel
theorem dX0_targetOf_17 : decode cX0_targetOf 17 = .ok (.iconst (-1), 1) := by decide +kernel
theorem dX0_targetOf_18 : decode cX0_targetOf 18 = .ok (.ireturn, 1) := by decide +kernel
theorem dX0_loadOf_0 : decode cX0_loadOf 0 = .ok (.aload_n 0, 1) := by decide +kernel
theorem dX0_loadOf_1 : decode cX0_loadOf 1 = .ok (.iload_n 1, 1) := by decide +kernel
theorem dX0_loadOf_2 : decode cX0_loadOf 2 = .ok (.invokevirtual 29, 3) := by decide +kernel
theorem dX0_loadOf_5 : decode cX0_loadOf 5 = .ok (.ifCond .eq 12, 3) := by decide +kernel
theorem dX0_loadOf_8 : decode cX0_loadOf 8 = .ok (.aload_n 0, 1) := by decide +kernel
theorem dX0_loadOf_9 : decode cX0_loadOf 9 = .ok (.getfield 18, 3) := by decide +kernel
theorem dX0_loadOf_12 : decode cX0_loadOf 12 = .ok (.iload_n 1, 1) := by decide +kernel
theorem dX0_loadOf_13 : decode cX0_loadOf 13 = .ok (.iaload, 1) := by decide +kernel
theorem dX0_loadOf_14 : decode cX0_loadOf 14 = .ok (.goto 4, 3) := by decide +kernel
theorem dX0_loadOf_17 : decode cX0_loadOf 17 = .ok (.iconst 0, 1) := by decide +kernel
theorem dX0_loadOf_18 : decode cX0_loadOf 18 = .ok (.ireturn, 1) := by decide +kernel
theorem dX0_removeArrived_0 : decode cX0_removeArrived 0 = .ok (.iconst 0, 1) := by decide +kernel
theorem dX0_removeArrived_1 : decode cX0_removeArrived 1 = .ok (.istore_n 2, 1) := by decide +kernel
theorem dX0_removeArrived_2 : decode cX0_removeArrived 2 = .ok (.iconst 0, 1) := by decide +kernel
theorem dX0_removeArrived_3 : decode cX0_removeArrived 3 = .ok (.istore_n 3, 1) := by decide +kernel
theorem dX0_removeArrived_4 : decode cX0_removeArrived 4 = .ok (.iload_n 3, 1) := by decide +kernel
theorem dX0_removeArrived_5 : decode cX0_removeArrived 5 = .ok (.aload_n 0, 1) := by decide +kernel
theorem dX0_removeArrived_6 : decode cX0_removeArrived 6 = .ok (.getfield 21, 3) := by decide +kernel
theorem dX0_removeArrived_9 : decode cX0_removeArrived 9 = .ok (.if_icmp .ge 58, 3) := by decide +kernel
theorem dX0_removeArrived_12 : decode cX0_removeArrived 12 = .ok (.aload_n 0, 1) := by decide +kernel
theorem dX0_removeArrived_13 : decode cX0_removeArrived 13 = .ok (.getfield 15, 3) := by decide +kernel
theorem dX0_removeArrived_16 : decode cX0_removeArrived 16 = .ok (.iload_n 3, 1) := by decide +kernel
theorem dX0_removeArrived_17 : decode cX0_removeArrived 17 = .ok (.iaload, 1) := by decide +kernel
theorem dX0_removeArrived_18 : decode cX0_removeArrived 18 = .ok (.iload_n 1, 1) := by decide +kernel
theorem dX0_removeArrived_19 : decode cX0_removeArrived 19 = .ok (.if_icmp .le 42, 3) := by decide +kernel
theorem dX0_removeArrived_22 : decode cX0_removeArrived 22 = .ok (.aload_n 0, 1) := by decide +kernel
theorem dX0_removeArrived_23 : decode cX0_removeArrived 23 = .ok (.getfield 11, 3) := by decide +kernel
theorem dX0_removeArrived_26 : decode cX0_removeArrived 26 = .ok (.iload_n 2, 1) := by decide +kernel
theorem dX0_removeArrived_27 : decode cX0_removeArrived 27 = .ok (.aload_n 0, 1) := by decide +kernel
theorem dX0_removeArrived_28 : decode cX0_removeArrived 28 = .ok (.getfield 11, 3) := by decide +kernel
theorem dX0_removeArrived_31 : decode cX0_removeArrived 31 = .ok (.iload_n 3, 1) := by decide +kernel
theorem dX0_removeArrived_32 : decode cX0_removeArrived 32 = .ok (.iaload, 1) := by decide +kernel
theorem dX0_removeArrived_33 : decode cX0_removeArrived 33 = .ok (.iastore, 1) := by decide +kernel
theorem dX0_removeArrived_34 : decode cX0_removeArrived 34 = .ok (.aload_n 0, 1) := by decide +kernel
theorem dX0_removeArrived_35 : decode cX0_removeArrived 35 = .ok (.getfield 15, 3) := by decide +kernel
theorem dX0_removeArrived_38 : decode cX0_removeArrived 38 = .ok (.iload_n 2, 1) := by decide +kernel
theorem dX0_removeArrived_39 : decode cX0_removeArrived 39 = .ok (.aload_n 0, 1) := by decide +kernel
theorem dX0_removeArrived_40 : decode cX0_removeArrived 40 = .ok (.getfield 15, 3) := by decide +kernel
theorem dX0_removeArrived_43 : decode cX0_removeArrived 43 = .ok (.iload_n 3, 1) := by decide +kernel
theorem dX0_removeArrived_44 : decode cX0_removeArrived 44 = .ok (.iaload, 1) := by decide +kernel
theorem dX0_removeArrived_45 : decode cX0_removeArrived 45 = .ok (.iastore, 1) := by decide +kernel
theorem dX0_removeArrived_46 : decode cX0_removeArrived 46 = .ok (.aload_n 0, 1) := by decide +kernel
theorem dX0_removeArrived_47 : decode cX0_removeArrived 47 = .ok (.getfield 18, 3) := by decide +kernel
theorem dX0_removeArrived_50 : decode cX0_removeArrived 50 = .ok (.iload_n 2, 1) := by decide +kernel
theorem dX0_removeArrived_51 : decode cX0_removeArrived 51 = .ok (.aload_n 0, 1) := by decide +kernel
theorem dX0_removeArrived_52 : decode cX0_removeArrived 52 = .ok (.getfield 18, 3) := by decide +kernel
theorem dX0_removeArrived_55 : decode cX0_removeArrived 55 = .ok (.iload_n 3, 1) := by decide +kernel
theorem dX0_removeArrived_56 : decode cX0_removeArrived 56 = .ok (.iaload, 1) := by decide +kernel
theorem dX0_removeArrived_57 : decode cX0_removeArrived 57 = .ok (.iastore, 1) := by decide +kernel
theorem dX0_removeArrived_58 : decode cX0_removeArrived 58 = .ok (.iinc 2 1, 3) := by decide +kernel
theorem dX0_removeArrived_61 : decode cX0_removeArrived 61 = .ok (.iinc 3 1, 3) := by decide +kernel
theorem dX0_removeArrived_64 : decode cX0_removeArrived 64 = .ok (.goto (-60), 3) := by decide +kernel
theorem dX0_removeArrived_67 : decode cX0_removeArrived 67 = .ok (.aload_n 0, 1) := by decide +kernel
theorem dX0_removeArrived_68 : decode cX0_removeArrived 68 = .ok (.iload_n 2, 1) := by decide +kernel
theorem dX0_removeArrived_69 : decode cX0_removeArrived 69 = .ok (.putfield 21, 3) := by decide +kernel
theorem dX0_removeArrived_72 : decode cX0_removeArrived 72 = .ok (.return_, 1) := by decide +kernel
theorem dX0_loadInAll_0 : decode cX0_loadInAll 0 = .ok (.lconst 0, 1) := by decide +kernel
theorem dX0_loadInAll_1 : decode cX0_loadInAll 1 = .ok (.lstore_n 1, 1) := by decide +kernel
theorem dX0_loadInAll_2 : decode cX0_loadInAll 2 = .ok (.iconst 0, 1) := by decide +kernel
theorem dX0_loadInAll_3 : decode cX0_loadInAll 3 = .ok (.istore_n 3, 1) := by decide +kernel
theorem dX0_loadInAll_4 : decode cX0_loadInAll 4 = .ok (.iload_n 3, 1) := by decide +kernel
theorem dX0_loadInAll_5 : decode cX0_loadInAll 5 = .ok (.aload_n 0, 1) := by decide +kernel
theorem dX0_loadInAll_6 : decode cX0_loadInAll 6 = .ok (.getfield 21, 3) := by decide +kernel
theorem dX0_loadInAll_9 : decode cX0_loadInAll 9 = .ok (.if_icmp .ge 19, 3) := by decide +kernel
theorem dX0_loadInAll_12 : decode cX0_loadInAll 12 = .ok (.lload_n 1, 1) := by decide +kernel
theorem dX0_loadInAll_13 : decode cX0_loadInAll 13 = .ok (.aload_n 0, 1) := by decide +kernel
theorem dX0_loadInAll_14 : decode cX0_loadInAll 14 = .ok (.getfield 18, 3) := by decide +kernel
theorem dX0_loadInAll_17 : decode cX0_loadInAll 17 = .ok (.iload_n 3, 1) := by decide +kernel
theorem dX0_loadInAll_18 : decode cX0_loadInAll 18 = .ok (.iaload, 1) := by decide +kernel
theorem dX0_loadInAll_19 : decode cX0_loadInAll 19 = .ok (.i2l, 1) := by decide +kernel
theorem dX0_loadInAll_20 : decode cX0_loadInAll 20 = .ok (.ladd, 1) := by decide +kernel
theorem dX0_loadInAll_21 : decode cX0_loadInAll 21 = .ok (.lstore_n 1, 1) := by decide +kernel
theorem dX0_loadInAll_22 : decode cX0_loadInAll 22 = .ok (.iinc 3 1, 3) := by decide +kernel
theorem dX0_loadInAll_25 : decode cX0_loadInAll 25 = .ok (.goto (-21), 3) := by decide +kernel
theorem dX0_loadInAll_28 : decode cX0_loadInAll 28 = .ok (.lload_n 1, 1) := by decide +kernel
theorem dX0_loadInAll_29 : decode cX0_loadInAll 29 = .ok (.lreturn, 1) := by decide +kernel
theorem dX0_imitate_0 : decode cX0_imitate 0 = .ok (.aload_n 0, 1) := by decide +kernel
theorem dX0_imitate_1 : decode cX0_imitate 1 = .ok (.aload_n 1, 1) := by decide +kernel
theorem dX0_imitate_2 : decode cX0_imitate 2 = .ok (.getfield 21, 3) := by decide +kernel
theorem dX0_imitate_5 : decode cX0_imitate 5 = .ok (.putfield 21, 3) := by decide +kernel
theorem dX0_imitate_8 : decode cX0_imitate 8 = .ok (.aload_n 1, 1) := by decide +kernel
theorem dX0_imitate_9 : decode cX0_imitate 9 = .ok (.getfield 11, 3) := by decide +kernel
theorem dX0_imitate_12 : decode cX0_imitate 12 = .ok (.iconst 0, 1) := by decide +kernel
theorem dX0_imitate_13 : decode cX0_imitate 13 = .ok (.aload_n 0, 1) := by decide +kernel
theorem dX0_imitate_14 : decode cX0_imitate 14 = .ok (.getfield 11, 3) := by decide +kernel
theorem dX0_imitate_17 : decode cX0_imitate 17 = .ok (.iconst 0, 1) := by decide +kernel
theorem dX0_imitate_18 : decode cX0_imitate 18 = .ok (.aload_n 0, 1) := by decide +kernel
theorem dX0_imitate_19 : decode cX0_imitate 19 = .ok (.getfield 21, 3) := by decide +kernel
theorem dX0_imitate_22 : decode cX0_imitate 22 = .ok (.invokestatic 33, 3) := by decide +kernel
theorem dX0_imitate_25 : decode cX0_imitate 25 = .ok (.aload_n 1, 1) := by decide +kernel
theorem dX0_imitate_26 : decode cX0_imitate 26 = .ok (.getfield 15, 3) := by decide +kernel
theorem dX0_imitate_29 : decode cX0_imitate 29 = .ok (.iconst 0, 1) := by decide +kernel
theorem dX0_imitate_30 : decode cX0_imitate 30 = .ok (.aload_n 0, 1) := by decide +kernel
theorem dX0_imitate_31 : decode cX0_imitate 31 = .ok (.getfield 15, 3) := by decide +kernel
theorem dX0_imitate_34 : decode cX0_imitate 34 = .ok (.iconst 0, 1) := by decide +kernel
theorem dX0_imitate_35 : decode cX0_imitate 35 = .ok (.aload_n 0, 1) := by decide +kernel
theorem dX0_imitate_36 : decode cX0_imitate 36 = .ok (.getfield 21, 3) := by decide +kernel
theorem dX0_imitate_39 : decode cX0_imitate 39 = .ok (.invokestatic 33, 3) := by decide +kernel
theorem dX0_imitate_42 : decode cX0_imitate 42 = .ok (.aload_n 1, 1) := by decide +kernel
theorem dX0_imitate_43 : decode cX0_imitate 43 = .ok (.getfield 18, 3) := by decide +kernel
theorem dX0_imitate_46 : decode cX0_imitate 46 = .ok (.iconst 0, 1) := by decide +kernel
theorem dX0_imitate_47 : decode cX0_imitate 47 = .ok (.aload_n 0, 1) := by decide +kernel
theorem dX0_imitate_48 : decode cX0_imitate 48 = .ok (.getfield 18, 3) := by decide +kernel
theorem dX0_imitate_51 : decode cX0_imitate 51 = .ok (.iconst 0, 1) := by decide +kernel
theorem dX0_imitate_52 : decode cX0_imitate 52 = .ok (.aload_n 0, 1) := by decide +kernel
theorem dX0_imitate_53 : decode cX0_imitate 53 = .ok (.getfield 21, 3) := by decide +kernel
theorem dX0_imitate_56 : decode cX0_imitate 56 = .ok (.invokestatic 33, 3) := by decide +kernel
theorem dX0_imitate_59 : decode cX0_imitate 59 = .ok (.return_, 1) := by decide +kernel
theorem dX0_isThere_0 : decode cX0_isThere 0 = .ok (.iload_n 1, 1) := by decide +kernel
theorem dX0_isThere_1 : decode cX0_isThere 1 = .ok (.ifCond .lt 15, 3) := by decide +kernel
theorem dX0_isThere_4 : decode cX0_isThere 4 = .ok (.iload_n 1, 1) := by decide +kernel
theorem dX0_isThere_5 : decode cX0_isThere 5 = .ok (.aload_n 0, 1) := by decide +kernel
theorem dX0_isThere_6 : decode cX0_isThere 6 = .ok (.getfield 21, 3) := by decide +kernel
theorem dX0_isThere_9 : decode cX0_isThere 9 = .ok (.if_icmp .ge 7, 3) := by decide +kernel
theorem dX0_isThere_12 : decode cX0_isThere 12 = .ok (.iconst 1, 1) := by decide +kernel
theorem dX0_isThere_13 : decode cX0_isThere 13 = .ok (.goto 4, 3) := by decide +kernel
theorem dX0_isThere_16 : decode cX0_isThere 16 = .ok (.iconst 0, 1) := by decide +kernel
theorem dX0_isThere_17 : decode cX0_isThere 17 = .ok (.ireturn, 1) := by decide +kernel
theorem dX1_init_0 : decode cX1_init 0 = .ok (.aload_n 0, 1) := by decide +kernel
theorem dX1_init_1 : decode cX1_init 1 = .ok (.invokespecial 3, 3) := by decide +kernel
theorem dX1_init_4 : decode cX1_init 4 = .ok (.aload_n 0, 1) := by decide +kernel
theorem dX1_init_5 : decode cX1_init 5 = .ok (.getstatic 9, 3) := by decide +kernel
theorem dX1_init_8 : decode cX1_init 8 = .ok (.invokevirtual 15, 3) := by decide +kernel
theorem dX1_init_11 : decode cX1_init 11 = .ok (.checkcast 16, 3) := by decide +kernel
theorem dX1_init_14 : decode cX1_init 14 = .ok (.putfield 20, 3) := by decide +kernel
theorem dX1_init_17 : decode cX1_init 17 = .ok (.aload_n 0, 1) := by decide +kernel
theorem dX1_init_18 : decode cX1_init 18 = .ok (.getstatic 9, 3) := by decide +kernel
theorem dX1_init_21 : decode cX1_init 21 = .ok (.invokevirtual 15, 3) := by decide +kernel
theorem dX1_init_24 : decode cX1_init 24 = .ok (.checkcast 16, 3) := by decide +kernel
theorem dX1_init_27 : decode cX1_init 27 = .ok (.putfield 23, 3) := by decide +kernel
theorem dX1_init_30 : decode cX1_init 30 = .ok (.return_, 1) := by decide +kernel
theorem dX1_letterIndex_0 : decode cX1_letterIndex 0 = .ok (.iload_n 0, 1) := by decide +kernel
theorem dX1_letterIndex_1 : decode cX1_letterIndex 1 = .ok (.ifCond .lt 10, 3) := by decide +kernel
theorem dX1_letterIndex_4 : decode cX1_letterIndex 4 = .ok (.iload_n 0, 1) := by decide +kernel
theorem dX1_letterIndex_5 : decode cX1_letterIndex 5 = .ok (.sipush 255, 3) := by decide +kernel
theorem dX1_letterIndex_8 : decode cX1_letterIndex 8 = .ok (.if_icmp .le 7, 3) := by decide +kernel
theorem dX1_letterIndex_11 : decode cX1_letterIndex 11 = .ok (.iconst (-1), 1) := by decide +kernel
theorem dX1_letterIndex_12 : decode cX1_letterIndex 12 = .ok (.goto 10, 3) := by decide +kernel
theorem dX1_letterIndex_15 : decode cX1_letterIndex 15 = .ok (.ldc 26, 2) := by decide +kernel
theorem dX1_letterIndex_17 : decode cX1_letterIndex 17 = .ok (.iload_n 0, 1) := by decide +kernel
theorem dX1_letterIndex_18 : decode cX1_letterIndex 18 = .ok (.i2c, 1) := by decide +kernel
theorem dX1_letterIndex_19 : decode cX1_letterIndex 19 = .ok (.invokevirtual 28, 3) := by decide +kernel
theorem dX1_letterIndex_22 : decode cX1_letterIndex 22 = .ok (.ireturn, 1) := by decide +kernel
theorem dX1_number_0 : decode cX1_number 0 = .ok (.iload_n 1, 1) := by decide +kernel
theorem dX1_number_1 : decode cX1_number 1 = .ok (.ifCond .lt 12, 3) := by decide +kernel
theorem dX1_number_4 : decode cX1_number 4 = .ok (.iload_n 1, 1) := by decide +kernel
theorem dX1_number_5 : decode cX1_number 5 = .ok (.aload_n 0, 1) := by decide +kernel
theorem dX1_number_6 : decode cX1_number 6 = .ok (.getfield 20, 3) := by decide +kernel
theorem dX1_number_9 : decode cX1_number 9 = .ok (.arraylength, 1) := by decide +kernel
theorem dX1_number_10 : decode cX1_number 10 = .ok (.if_icmp .lt 7, 3) := by decide +kernel
theorem dX1_number_13 : decode cX1_number 13 = .ok (.iconst 0, 1) := by decide +kernel
theorem dX1_number_14 : decode cX1_number 14 = .ok (.goto 9, 3) := by decide +kernel
theorem dX1_number_17 : decode cX1_number 17 = .ok (.aload_n 0, 1) := by decide +kernel
theorem dX1_number_18 : decode cX1_number 18 = .ok (.getfield 20, 3) := by decide +kernel
theorem dX1_number_21 : decode cX1_number 21 = .ok (.iload_n 1, 1) := by decide +kernel
theorem dX1_number_22 : decode cX1_number 22 = .ok (.iaload, 1) := by decide +kernel
theorem dX1_number_23 : decode cX1_number 23 = .ok (.ireturn, 1) := by decide +kernel
theorem dX1_proclaim_0 : decode cX1_proclaim 0 = .ok (.getstatic 9, 3) := by decide +kernel
theorem dX1_proclaim_3 : decode cX1_proclaim 3 = .ok (.iconst 0, 1) := by decide +kernel
theorem dX1_proclaim_4 : decode cX1_proclaim 4 = .ok (.aload_n 0, 1) := by decide +kernel
theorem dX1_proclaim_5 : decode cX1_proclaim 5 = .ok (.getfield 23, 3) := by decide +kernel
theorem dX1_proclaim_8 : decode cX1_proclaim 8 = .ok (.iconst 0, 1) := by decide +kernel
theorem dX1_proclaim_9 : decode cX1_proclaim 9 = .ok (.aload_n 0, 1) := by decide +kernel
theorem dX1_proclaim_10 : decode cX1_proclaim 10 = .ok (.getfield 23, 3) := by decide +kernel
theorem dX1_proclaim_13 : decode cX1_proclaim 13 = .ok (.arraylength, 1) := by decide +kernel
theorem dX1_proclaim_14 : decode cX1_proclaim 14 = .ok (.invokestatic 34, 3) := by decide +kernel
theorem dX1_proclaim_17 : decode cX1_proclaim 17 = .ok (.iconst 0, 1) := by decide +kernel
theorem dX1_proclaim_18 : decode cX1_proclaim 18 = .ok (.istore_n 3, 1) := by decide +kernel
theorem dX1_proclaim_19 : decode cX1_proclaim 19 = .ok (.iconst 0, 1) := by decide +kernel
theorem dX1_proclaim_20 : decode cX1_proclaim 20 = .ok (.istore 4, 2) := by decide +kernel
theorem dX1_proclaim_22 : decode cX1_proclaim 22 = .ok (.iload 4, 2) := by decide +kernel
theorem dX1_proclaim_24 : decode cX1_proclaim 24 = .ok (.iload_n 2, 1) := by decide +kernel
theorem dX1_proclaim_25 : decode cX1_proclaim 25 = .ok (.if_icmp .gt 175, 3) := by decide +kernel
theorem dX1_proclaim_28 : decode cX1_proclaim 28 = .ok (.iload_n 3, 1) := by decide +kernel
theorem dX1_proclaim_29 : decode cX1_proclaim 29 = .ok (.iload_n 2, 1) := by decide +kernel
theorem dX1_proclaim_30 : decode cX1_proclaim 30 = .ok (.if_icmp .ge 14, 3) := by decide +kernel
theorem dX1_proclaim_33 : decode cX1_proclaim 33 = .ok (.aload_n 1, 1) := by decide +kernel
theorem dX1_proclaim_34 : decode cX1_proclaim 34 = .ok (.iload_n 3, 1) := by decide +kernel
theorem dX1_proclaim_35 : decode cX1_proclaim 35 = .ok (.invokevirtual 40, 3) := by decide +kernel
theorem dX1_proclaim_38 : decode cX1_proclaim 38 = .ok (.invokestatic 45, 3) := by decide +kernel
theorem dX1_proclaim_41 : decode cX1_proclaim 41 = .ok (.goto 4, 3) := by decide +kernel
theorem dX1_proclaim_44 : decode cX1_proclaim 44 = .ok (.iconst (-1), 1) := by decide +kernel
theorem dX1_proclaim_45 : decode cX1_proclaim 45 = .ok (.istore 5, 2) := by decide +kernel
theorem dX1_proclaim_47 : decode cX1_proclaim 47 = .ok (.iload 5, 2) := by decide +kernel
theorem dX1_proclaim_49 : decode cX1_proclaim 49 = .ok (.ifCond .lt 13, 3) := by decide +kernel
theorem dX1_proclaim_52 : decode cX1_proclaim 52 = .ok (.iload 5, 2) := by decide +kernel
theorem dX1_proclaim_54 : decode cX1_proclaim 54 = .ok (.aload_n 0, 1) := by decide +kernel
theorem dX1_proclaim_55 : decode cX1_proclaim 55 = .ok (.getfield 23, 3) := by decide +kernel
theorem dX1_proclaim_58 : decode cX1_proclaim 58 = .ok (.arraylength, 1) := by decide +kernel
theorem dX1_proclaim_59 : decode cX1_proclaim 59 = .ok (.if_icmp .lt 9, 3) := by decide +kernel
theorem dX1_proclaim_62 : decode cX1_proclaim 62 = .ok (.iconst 1, 1) := by decide +kernel
theorem dX1_proclaim_63 : decode cX1_proclaim 63 = .ok (.iload_n 3, 1) := by decide +kernel
theorem dX1_proclaim_64 : decode cX1_proclaim 64 = .ok (.invokestatic 48, 3) := by decide +kernel
theorem dX1_proclaim_67 : decode cX1_proclaim 67 = .ok (.ireturn, 1) := by decide +kernel
theorem dX1_proclaim_68 : decode cX1_proclaim 68 = .ok (.iload_n 3, 1) := by decide +kernel
theorem dX1_proclaim_69 : decode cX1_proclaim 69 = .ok (.iconst 1, 1) := by decide +kernel
theorem dX1_proclaim_70 : decode cX1_proclaim 70 = .ok (.iadd, 1) := by decide +kernel
theorem dX1_proclaim_71 : decode cX1_proclaim 71 = .ok (.istore 6, 2) := by decide +kernel
theorem dX1_proclaim_73 : decode cX1_proclaim 73 = .ok (.aload_n 1, 1) := by decide +kernel
theorem dX1_proclaim_74 : decode cX1_proclaim 74 = .ok (.iload_n 2, 1) := by decide +kernel
theorem dX1_proclaim_75 : decode cX1_proclaim 75 = .ok (.iload 6, 2) := by decide +kernel
theorem dX1_proclaim_77 : decode cX1_proclaim 77 = .ok (.invokestatic 52, 3) := by decide +kernel
theorem dX1_proclaim_80 : decode cX1_proclaim 80 = .ok (.istore 7, 2) := by decide +kernel
theorem dX1_proclaim_82 : decode cX1_proclaim 82 = .ok (.iload 7, 2) := by decide +kernel
theorem dX1_proclaim_84 : decode cX1_proclaim 84 = .ok (.iload 6, 2) := by decide +kernel
theorem dX1_proclaim_86 : decode cX1_proclaim 86 = .ok (.if_icmp .ne 10, 3) := by decide +kernel
theorem dX1_proclaim_89 : decode cX1_proclaim 89 = .ok (.iconst 2, 1) := by decide +kernel
theorem dX1_proclaim_90 : decode cX1_proclaim 90 = .ok (.iload 6, 2) := by decide +kernel
theorem dX1_proclaim_92 : decode cX1_proclaim 92 = .ok (.invokestatic 48, 3) := by decide +kernel
theorem dX1_proclaim_95 : decode cX1_proclaim 95 = .ok (.ireturn, 1) := by decide +kernel
theorem dX1_proclaim_96 : decode cX1_proclaim 96 = .ok (.iload 7, 2) := by decide +kernel
theorem dX1_proclaim_98 : decode cX1_proclaim 98 = .ok (.iload 6, 2) := by decide +kernel
theorem dX1_proclaim_100 : decode cX1_proclaim 100 = .ok (.isub, 1) := by decide +kernel
theorem dX1_proclaim_101 : decode cX1_proclaim 101 = .ok (.iconst 4, 1) := by decide +kernel
theorem dX1_proclaim_102 : decode cX1_proclaim 102 = .ok (.if_icmp .le 12, 3) := by decide +kernel
theorem dX1_proclaim_105 : decode cX1_proclaim 105 = .ok (.iconst 3, 1) := by decide +kernel
theorem dX1_proclaim_106 : decode cX1_proclaim 106 = .ok (.iload 6, 2) := by decide +kernel
theorem dX1_proclaim_108 : decode cX1_proclaim 108 = .ok (.iconst 4, 1) := by decide +kernel
theorem dX1_proclaim_109 : decode cX1_proclaim 109 = .ok (.iadd, 1) := by decide +kernel
theorem dX1_proclaim_110 : decode cX1_proclaim 110 = .ok (.invokestatic 48, 3) := by decide +kernel
theorem dX1_proclaim_113 : decode cX1_proclaim 113 = .ok (.ireturn, 1) := by decide +kernel
theorem dX1_proclaim_114 : decode cX1_proclaim 114 = .ok (.aload_n 1, 1) := by decide +kernel
theorem dX1_proclaim_115 : decode cX1_proclaim 115 = .ok (.iload 6, 2) := by decide +kernel
theorem dX1_proclaim_117 : decode cX1_proclaim 117 = .ok (.iload 7, 2) := by decide +kernel
theorem dX1_proclaim_119 : decode cX1_proclaim 119 = .ok (.invokestatic 56, 3) := by decide +kernel
theorem dX1_proclaim_122 : decode cX1_proclaim 122 = .ok (.istore 8, 2) := by decide +kernel
theorem dX1_proclaim_124 : decode cX1_proclaim 124 = .ok (.iload 8, 2) := by decide +kernel
theorem dX1_proclaim_126 : decode cX1_proclaim 126 = .ok (.getstatic 59, 3) := by decide +kernel
theorem dX1_proclaim_129 : decode cX1_proclaim 129 = .ok (.iload 5, 2) := by decide +kernel
theorem dX1_proclaim_131 : decode cX1_proclaim 131 = .ok (.iaload, 1) := by decide +kernel
theorem dX1_proclaim_132 : decode cX1_proclaim 132 = .ok (.if_icmp .lt 14, 3) := by decide +kernel
theorem dX1_proclaim_135 : decode cX1_proclaim 135 = .ok (.iload 8, 2) := by decide +kernel
theorem dX1_proclaim_137 : decode cX1_proclaim 137 = .ok (.getstatic 62, 3) := by decide +kernel
theorem dX1_proclaim_140 : decode cX1_proclaim 140 = .ok (.iload 5, 2) := by decide +kernel
theorem dX1_proclaim_142 : decode cX1_proclaim 142 = .ok (.iaload, 1) := by decide +kernel
theorem dX1_proclaim_143 : decode cX1_proclaim 143 = .ok (.if_icmp .le 10, 3) := by decide +kernel
theorem dX1_proclaim_146 : decode cX1_proclaim 146 = .ok (.iconst 4, 1) := by decide +kernel
theorem dX1_proclaim_147 : decode cX1_proclaim 147 = .ok (.iload 6, 2) := by decide +kernel
theorem dX1_proclaim_149 : decode cX1_proclaim 149 = .ok (.invokestatic 48, 3) := by decide +kernel
theorem dX1_proclaim_152 : decode cX1_proclaim 152 = .ok (.ireturn, 1) := by decide +kernel
theorem dX1_proclaim_153 : decode cX1_proclaim 153 = .ok (.aload_n 0, 1) := by decide +kernel
theorem dX1_proclaim_154 : decode cX1_proclaim 154 = .ok (.getfield 23, 3) := by decide +kernel
theorem dX1_proclaim_157 : decode cX1_proclaim 157 = .ok (.iload 5, 2) := by decide +kernel
theorem dX1_proclaim_159 : decode cX1_proclaim 159 = .ok (.iload 8, 2) := by decide +kernel
theorem dX1_proclaim_161 : decode cX1_proclaim 161 = .ok (.iastore, 1) := by decide +kernel
theorem dX1_proclaim_162 : decode cX1_proclaim 162 = .ok (.iload 7, 2) := by decide +kernel
theorem dX1_proclaim_164 : decode cX1_proclaim 164 = .ok (.iload_n 2, 1) := by decide +kernel
theorem dX1_proclaim_165 : decode cX1_proclaim 165 = .ok (.if_icmp .lt 6, 3) := by decide +kernel
theorem dX1_proclaim_168 : decode cX1_proclaim 168 = .ok (.goto 32, 3) := by decide +kernel
theorem dX1_proclaim_171 : decode cX1_proclaim 171 = .ok (.aload_n 1, 1) := by decide +kernel
theorem dX1_proclaim_172 : decode cX1_proclaim 172 = .ok (.iload 7, 2) := by decide +kernel
theorem dX1_proclaim_174 : decode cX1_proclaim 174 = .ok (.invokevirtual 40, 3) := by decide +kernel
theorem dX1_proclaim_177 : decode cX1_proclaim 177 = .ok (.bipush 59, 2) := by decide +kernel
theorem dX1_proclaim_179 : decode cX1_proclaim 179 = .ok (.if_icmp .eq 10, 3) := by decide +kernel
theorem dX1_proclaim_182 : decode cX1_proclaim 182 = .ok (.iconst 5, 1) := by decide +kernel
theorem dX1_proclaim_183 : decode cX1_proclaim 183 = .ok (.iload 7, 2) := by decide +kernel
theorem dX1_proclaim_185 : decode cX1_proclaim 185 = .ok (.invokestatic 48, 3) := by decide +kernel
theorem dX1_proclaim_188 : decode cX1_proclaim 188 = .ok (.ireturn, 1) := by decide +kernel
theorem dX1_proclaim_189 : decode cX1_proclaim 189 = .ok (.iload 7, 2) := by decide +kernel
theorem dX1_proclaim_191 : decode cX1_proclaim 191 = .ok (.iconst 1, 1) := by decide +kernel
theorem dX1_proclaim_192 : decode cX1_proclaim 192 = .ok (.iadd, 1) := by decide +kernel
theorem dX1_proclaim_193 : decode cX1_proclaim 193 = .ok (.istore_n 3, 1) := by decide +kernel
theorem dX1_proclaim_194 : decode cX1_proclaim 194 = .ok (.iinc 4 1, 3) := by decide +kernel
theorem dX1_proclaim_197 : decode cX1_proclaim 197 = .ok (.goto (-175), 3) := by decide +kernel
theorem dX1_proclaim_200 : decode cX1_proclaim 200 = .ok (.aload_n 0, 1) := by decide +kernel
theorem dX1_proclaim_201 : decode cX1_proclaim 201 = .ok (.getfield 23, 3) := by decide +kernel
theorem dX1_proclaim_204 : decode cX1_proclaim 204 = .ok (.iconst 0, 1) := by decide +kernel
theorem dX1_proclaim_205 : decode cX1_proclaim 205 = .ok (.aload_n 0, 1) := by decide +kernel
theorem dX1_proclaim_206 : decode cX1_proclaim 206 = .ok (.getfield 20, 3) := by decide +kernel
theorem dX1_proclaim_209 : decode cX1_proclaim 209 = .ok (.iconst 0, 1) := by decide +kernel
theorem dX1_proclaim_210 : decode cX1_proclaim 210 = .ok (.aload_n 0, 1) := by decide +kernel
theorem dX1_proclaim_211 : decode cX1_proclaim 211 = .ok (.getfield 20, 3) := by decide +kernel
theorem dX1_proclaim_214 : decode cX1_proclaim 214 = .ok (.arraylength, 1) := by decide +kernel
theorem dX1_proclaim_215 : decode cX1_proclaim 215 = .ok (.invokestatic 34, 3) := by decide +kernel
theorem dX1_proclaim_218 : decode cX1_proclaim 218 = .ok (.iconst 0, 1) := by decide +kernel
theorem dX1_proclaim_219 : decode cX1_proclaim 219 = .ok (.ireturn, 1) := by decide +kernel
theorem dX1_digitsEnd_0 : decode cX1_digitsEnd 0 = .ok (.iload_n 2, 1) := by decide +kernel
theorem dX1_digitsEnd_1 : decode cX1_digitsEnd 1 = .ok (.istore_n 3, 1) := by decide +kernel
theorem dX1_digitsEnd_2 : decode cX1_digitsEnd 2 = .ok (.iload_n 3, 1) := by decide +kernel
theorem dX1_digitsEnd_3 : decode cX1_digitsEnd 3 = .ok (.iload_n 1, 1) := by decide +kernel
theorem dX1_digitsEnd_4 : decode cX1_digitsEnd 4 = .ok (.if_icmp .ge 29, 3) := by decide +kernel
theorem dX1_digitsEnd_7 : decode cX1_digitsEnd 7 = .ok (.aload_n 0, 1) := by decide +kernel
theorem dX1_digitsEnd_8 : decode cX1_digitsEnd 8 = .ok (.iload_n 3, 1) := by decide +kernel
theorem dX1_digitsEnd_9 : decode cX1_digitsEnd 9 = .ok (.invokevirtual 40, 3) := by decide +kernel
theorem dX1_digitsEnd_12 : decode cX1_digitsEnd 12 = .ok (.bipush 48, 2) := by decide +kernel
theorem dX1_digitsEnd_14 : decode cX1_digitsEnd 14 = .ok (.if_icmp .lt 19, 3) := by decide +kernel
theorem dX1_digitsEnd_17 : decode cX1_digitsEnd 17 = .ok (.aload_n 0, 1) := by decide +kernel
theorem dX1_digitsEnd_18 : decode cX1_digitsEnd 18 = .ok (.iload_n 3, 1) := by decide +kernel
theorem dX1_digitsEnd_19 : decode cX1_digitsEnd 19 = .ok (.invokevirtual 40, 3) := by decide +kernel
theorem dX1_digitsEnd_22 : decode cX1_digitsEnd 22 = .ok (.bipush 57, 2) := by decide +kernel
theorem dX1_digitsEnd_24 : decode cX1_digitsEnd 24 = .ok (.if_icmp .gt 9, 3) := by decide +kernel
theorem dX1_digitsEnd_27 : decode cX1_digitsEnd 27 = .ok (.iinc 3 1, 3) := by decide +kernel
theorem dX1_digitsEnd_30 : decode cX1_digitsEnd 30 = .ok (.goto (-28), 3) := by decide +kernel
theorem dX1_digitsEnd_33 : decode cX1_digitsEnd 33 = .ok (.iload_n 3, 1) := by decide +kernel
theorem dX1_digitsEnd_34 : decode cX1_digitsEnd 34 = .ok (.ireturn, 1) := by decide +kernel
theorem dX1_numberAt_0 : decode cX1_numberAt 0 = .ok (.iconst 0, 1) := by decide +kernel
theorem dX1_numberAt_1 : decode cX1_numberAt 1 = .ok (.istore_n 3, 1) := by decide +kernel
theorem dX1_numberAt_2 : decode cX1_numberAt 2 = .ok (.iload_n 1, 1) := by decide +kernel
theorem dX1_numberAt_3 : decode cX1_numberAt 3 = .ok (.istore 4, 2) := by decide +kernel
theorem dX1_numberAt_5 : decode cX1_numberAt 5 = .ok (.iload 4, 2) := by decide +kernel
theorem dX1_numberAt_7 : decode cX1_numberAt 7 = .ok (.iload_n 2, 1) := by decide +kernel
theorem dX1_numberAt_8 : decode cX1_numberAt 8 = .ok (.if_icmp .ge 24, 3) := by decide +kernel
theorem dX1_numberAt_11 : decode cX1_numberAt 11 = .ok (.bipush 10, 2) := by decide +kernel
theorem dX1_numberAt_13 : decode cX1_numberAt 13 = .ok (.iload_n 3, 1) := by decide +kernel
theorem dX1_numberAt_14 : decode cX1_numberAt 14 = .ok (.imul, 1) := by decide +kernel
theorem dX1_numberAt_15 : decode cX1_numberAt 15 = .ok (.aload_n 0, 1) := by decide +kernel
theorem dX1_numberAt_16 : decode cX1_numberAt 16 = .ok (.iload 4, 2) := by decide +kernel
theorem dX1_numberAt_18 : decode cX1_numberAt 18 = .ok (.invokevirtual 40, 3) := by decide +kernel
theorem dX1_numberAt_21 : decode cX1_numberAt 21 = .ok (.iadd, 1) := by decide +kernel
theorem dX1_numberAt_22 : decode cX1_numberAt 22 = .ok (.bipush 48, 2) := by decide +kernel
theorem dX1_numberAt_24 : decode cX1_numberAt 24 = .ok (.isub, 1) := by decide +kernel
theorem dX1_numberAt_25 : decode cX1_numberAt 25 = .ok (.istore_n 3, 1) := by decide +kernel
theorem dX1_numberAt_26 : decode cX1_numberAt 26 = .ok (.iinc 4 1, 3) := by decide +kernel
theorem dX1_numberAt_29 : decode cX1_numberAt 29 = .ok (.goto (-24), 3) := by decide +kernel
theorem dX1_numberAt_32 : decode cX1_numberAt 32 = .ok (.iload_n 3, 1) := by decide +kernel
theorem dX1_numberAt_33 : decode cX1_numberAt 33 = .ok (.ireturn, 1) := by decide +kernel
theorem dX1_fault_0 : decode cX1_fault 0 = .ok (.bipush 100, 2) := by decide +kernel
theorem dX1_fault_2 : decode cX1_fault 2 = .ok (.iload_n 0, 1) := by decide +kernel
theorem dX1_fault_3 : decode cX1_fault 3 = .ok (.imul, 1) := by decide +kernel
theorem dX1_fault_4 : decode cX1_fault 4 = .ok (.iload_n 1, 1) := by decide +kernel
theorem dX1_fault_5 : decode cX1_fault 5 = .ok (.iadd, 1) := by decide +kernel
theorem dX1_fault_6 : decode cX1_fault 6 = .ok (.ireturn, 1) := by decide +kernel
theorem dX2_init_0 : decode cX2_init 0 = .ok (.aload_n 0, 1) := by decide +kernel
theorem dX2_init_1 : decode cX2_init 1 = .ok (.invokespecial 1, 3) := by decide +kernel
theorem dX2_init_4 : decode cX2_init 4 = .ok (.aload_n 0, 1) := by decide +kernel
theorem dX2_init_5 : decode cX2_init 5 = .ok (.new 7, 3) := by decide +kernel
theorem dX2_init_8 : decode cX2_init 8 = .ok (.dup, 1) := by decide +kernel
theorem dX2_init_9 : decode cX2_init 9 = .ok (.invokespecial 9, 3) := by decide +kernel
theorem dX2_init_12 : decode cX2_init 12 = .ok (.putfield 10, 3) := by decide +kernel
theorem dX2_init_15 : decode cX2_init 15 = .ok (.aload_n 0, 1) := by decide +kernel
theorem dX2_init_16 : decode cX2_init 16 = .ok (.new 16, 3) := by decide +kernel
theorem dX2_init_19 : decode cX2_init 19 = .ok (.dup, 1) := by decide +kernel
theorem dX2_init_20 : decode cX2_init 20 = .ok (.invokespecial 18, 3) := by decide +kernel
theorem dX2_init_23 : decode cX2_init 23 = .ok (.putfield 19, 3) := by decide +kernel
theorem dX2_init_26 : decode cX2_init 26 = .ok (.return_, 1) := by decide +kernel
theorem dX2_townCount_0 : decode cX2_townCount 0 = .ok (.aload_n 0, 1) := by decide +kernel
theorem dX2_townCount_1 : decode cX2_townCount 1 = .ok (.getfield 10, 3) := by decide +kernel
theorem dX2_townCount_4 : decode cX2_townCount 4 = .ok (.invokevirtual 23, 3) := by decide +kernel
theorem dX2_townCount_7 : decode cX2_townCount 7 = .ok (.ireturn, 1) := by decide +kernel
theorem dX2_townAt_0 : decode cX2_townAt 0 = .ok (.iload_n 1, 1) := by decide +kernel
theorem dX2_townAt_1 : decode cX2_townAt 1 = .ok (.ifCond .lt 14, 3) := by decide +kernel
theorem dX2_townAt_4 : decode cX2_townAt 4 = .ok (.iload_n 1, 1) := by decide +kernel
theorem dX2_townAt_5 : decode cX2_townAt 5 = .ok (.aload_n 0, 1) := by decide +kernel
theorem dX2_townAt_6 : decode cX2_townAt 6 = .ok (.getfield 10, 3) := by decide +kernel
theorem dX2_townAt_9 : decode cX2_townAt 9 = .ok (.invokevirtual 23, 3) := by decide +kernel
theorem dX2_townAt_12 : decode cX2_townAt 12 = .ok (.if_icmp .lt 7, 3) := by decide +kernel
theorem dX2_townAt_15 : decode cX2_townAt 15 = .ok (.aconst_null, 1) := by decide +kernel
theorem dX2_townAt_16 : decode cX2_townAt 16 = .ok (.goto 14, 3) := by decide +kernel
theorem dX2_townAt_19 : decode cX2_townAt 19 = .ok (.aload_n 0, 1) := by decide +kernel
theorem dX2_townAt_20 : decode cX2_townAt 20 = .ok (.getfield 10, 3) := by decide +kernel
theorem dX2_townAt_23 : decode cX2_townAt 23 = .ok (.iload_n 1, 1) := by decide +kernel
theorem dX2_townAt_24 : decode cX2_townAt 24 = .ok (.invokevirtual 27, 3) := by decide +kernel
theorem dX2_townAt_27 : decode cX2_townAt 27 = .ok (.checkcast 31, 3) := by decide +kernel
theorem dX2_townAt_30 : decode cX2_townAt 30 = .ok (.areturn, 1) := by decide +kernel
theorem dX2_settle_0 : decode cX2_settle 0 = .ok (.aload_n 0, 1) := by decide +kernel
theorem dX2_settle_1 : decode cX2_settle 1 = .ok (.getfield 10, 3) := by decide +kernel
theorem dX2_settle_4 : decode cX2_settle 4 = .ok (.aload_n 1, 1) := by decide +kernel
theorem dX2_settle_5 : decode cX2_settle 5 = .ok (.invokevirtual 33, 3) := by decide +kernel
theorem dX2_settle_8 : decode cX2_settle 8 = .ok (.pop, 1) := by decide +kernel
theorem dX2_settle_9 : decode cX2_settle 9 = .ok (.return_, 1) := by decide +kernel
theorem dX2_canSend_0 : decode cX2_canSend 0 = .ok (.aload_n 0, 1) := by decide +kernel
theorem dX2_canSend_1 : decode cX2_canSend 1 = .ok (.getfield 19, 3) := by decide +kernel
theorem dX2_canSend_4 : decode cX2_canSend 4 = .ok (.invokevirtual 37, 3) := by decide +kernel
theorem dX2_canSend_7 : decode cX2_canSend 7 = .ok (.ifCond .ne 7, 3) := by decide +kernel
theorem dX2_canSend_10 : decode cX2_canSend 10 = .ok (.iconst 1, 1) := by decide +kernel
theorem dX2_canSend_11 : decode cX2_canSend 11 = .ok (.goto 4, 3) := by decide +kernel
theorem dX2_canSend_14 : decode cX2_canSend 14 = .ok (.iconst 0, 1) := by decide +kernel
theorem dX2_canSend_15 : decode cX2_canSend 15 = .ok (.ireturn, 1) := by decide +kernel
theorem dX2_send_0 : decode cX2_send 0 = .ok (.aload_n 0, 1) := by decide +kernel
theorem dX2_send_1 : decode cX2_send 1 = .ok (.iload_n 1, 1) := by decide +kernel
theorem dX2_send_2 : decode cX2_send 2 = .ok (.invokevirtual 41, 3) := by decide +kernel
theorem dX2_send_5 : decode cX2_send 5 = .ok (.astore 4, 2) := by decide +kernel
theorem dX2_send_7 : decode cX2_send 7 = .ok (.aload 4, 2) := by decide +kernel
theorem dX2_send_9 : decode cX2_send 9 = .ok (.ifnonnull 4, 3) := by decide +kernel
theorem dX2_send_12 : decode cX2_send 12 = .ok (.return_, 1) := by decide +kernel
theorem dX2_send_13 : decode cX2_send 13 = .ok (.aload 4, 2) := by decide +kernel
theorem dX2_send_15 : decode cX2_send 15 = .ok (.getfield 45, 3) := by decide +kernel
theorem dX2_send_18 : decode cX2_send 18 = .ok (.iload_n 3, 1) := by decide +kernel
theorem dX2_send_19 : decode cX2_send 19 = .ok (.invokevirtual 49, 3) := by decide +kernel
theorem dX2_send_22 : decode cX2_send 22 = .ok (.aload_n 0, 1) := by decide +kernel
theorem dX2_send_23 : decode cX2_send 23 = .ok (.getfield 19, 3) := by decide +kernel
theorem dX2_send_26 : decode cX2_send 26 = .ok (.aload_n 2, 1) := by decide +kernel
theorem dX2_send_27 : decode cX2_send 27 = .ok (.iload_n 1, 1) := by decide +kernel
theorem dX2_send_28 : decode cX2_send 28 = .ok (.invokevirtual 55, 3) := by decide +kernel
theorem dX2_send_31 : decode cX2_send 31 = .ok (.aload_n 0, 1) := by decide +kernel
theorem dX2_send_32 : decode cX2_send 32 = .ok (.getfield 61, 3) := by decide +kernel
theorem dX2_send_35 : decode cX2_send 35 = .ok (.aload_n 2, 1) := by decide +kernel
theorem dX2_send_36 : decode cX2_send 36 = .ok (.getfield 65, 3) := by decide +kernel
theorem dX2_send_39 : decode cX2_send 39 = .ok (.iadd, 1) := by decide +kernel
theorem dX2_send_40 : decode cX2_send 40 = .ok (.iload_n 3, 1) := by decide +kernel
theorem dX2_send_41 : decode cX2_send 41 = .ok (.invokevirtual 68, 3) := by decide +kernel
theorem dX2_send_44 : decode cX2_send 44 = .ok (.return_, 1) := by decide +kernel
theorem dX2_measuresOnTheWay_0 : decode cX2_measuresOnTheWay 0 = .ok (.aload_n 0, 1) := by decide +kernel
theorem dX2_measuresOnTheWay_1 : decode cX2_measuresOnTheWay 1 = .ok (.getfield 19, 3) := by decide +kernel
theorem dX2_measuresOnTheWay_4 : decode cX2_measuresOnTheWay 4 = .ok (.invokevirtual 71, 3) := by decide +kernel
theorem dX2_measuresOnTheWay_7 : decode cX2_measuresOnTheWay 7 = .ok (.lreturn, 1) := by decide +kernel
theorem dX2_hungerEver_0 : decode cX2_hungerEver 0 = .ok (.lconst 0, 1) := by decide +kernel
theorem dX2_hungerEver_1 : decode cX2_hungerEver 1 = .ok (.lstore_n 1, 1) := by decide +kernel
theorem dX2_hungerEver_2 : decode cX2_hungerEver 2 = .ok (.iconst 0, 1) := by decide +kernel
theorem dX2_hungerEver_3 : decode cX2_hungerEver 3 = .ok (.istore_n 3, 1) := by decide +kernel
theorem dX2_hungerEver_4 : decode cX2_hungerEver 4 = .ok (.iload_n 3, 1) := by decide +kernel
theorem dX2_hungerEver_5 : decode cX2_hungerEver 5 = .ok (.aload_n 0, 1) := by decide +kernel
theorem dX2_hungerEver_6 : decode cX2_hungerEver 6 = .ok (.getfield 10, 3) := by decide +kernel
theorem dX2_hungerEver_9 : decode cX2_hungerEver 9 = .ok (.invokevirtual 23, 3) := by decide +kernel
theorem dX2_hungerEver_12 : decode cX2_hungerEver 12 = .ok (.if_icmp .ge 26, 3) := by decide +kernel
theorem dX2_hungerEver_15 : decode cX2_hungerEver 15 = .ok (.lload_n 1, 1) := by decide +kernel
theorem dX2_hungerEver_16 : decode cX2_hungerEver 16 = .ok (.aload_n 0, 1) := by decide +kernel
theorem dX2_hungerEver_17 : decode cX2_hungerEver 17 = .ok (.getfield 10, 3) := by decide +kernel
theorem dX2_hungerEver_20 : decode cX2_hungerEver 20 = .ok (.iload_n 3, 1) := by decide +kernel
theorem dX2_hungerEver_21 : decode cX2_hungerEver 21 = .ok (.invokevirtual 27, 3) := by decide +kernel
theorem dX2_hungerEver_24 : decode cX2_hungerEver 24 = .ok (.checkcast 31, 3) := by decide +kernel
theorem dX2_hungerEver_27 : decode cX2_hungerEver 27 = .ok (.getfield 75, 3) := by decide +kernel
theorem dX2_hungerEver_30 : decode cX2_hungerEver 30 = .ok (.ladd, 1) := by decide +kernel
theorem dX2_hungerEver_31 : decode cX2_hungerEver 31 = .ok (.lstore_n 1, 1) := by decide +kernel
theorem dX2_hungerEver_32 : decode cX2_hungerEver 32 = .ok (.iinc 3 1, 3) := by decide +kernel
theorem dX2_hungerEver_35 : decode cX2_hungerEver 35 = .ok (.goto (-31), 3) := by decide +kernel
theorem dX2_hungerEver_38 : decode cX2_hungerEver 38 = .ok (.lload_n 1, 1) := by decide +kernel
theorem dX2_hungerEver_39 : decode cX2_hungerEver 39 = .ok (.lreturn, 1) := by decide +kernel
theorem dX2_passMonths_0 : decode cX2_passMonths 0 = .ok (.lconst 0, 1) := by decide +kernel
theorem dX2_passMonths_1 : decode cX2_passMonths 1 = .ok (.lstore_n 3, 1) := by decide +kernel
theorem dX2_passMonths_2 : decode cX2_passMonths 2 = .ok (.iconst 0, 1) := by decide +kernel
theorem dX2_passMonths_3 : decode cX2_passMonths 3 = .ok (.istore 5, 2) := by decide +kernel
theorem dX2_passMonths_5 : decode cX2_passMonths 5 = .ok (.iload 5, 2) := by decide +kernel
theorem dX2_passMonths_7 : decode cX2_passMonths 7 = .ok (.iload_n 1, 1) := by decide +kernel
theorem dX2_passMonths_8 : decode cX2_passMonths 8 = .ok (.if_icmp .ge 109, 3) := by decide +kernel
theorem dX2_passMonths_11 : decode cX2_passMonths 11 = .ok (.aload_n 0, 1) := by decide +kernel
theorem dX2_passMonths_12 : decode cX2_passMonths 12 = .ok (.dup, 1) := by decide +kernel
theorem dX2_passMonths_13 : decode cX2_passMonths 13 = .ok (.getfield 61, 3) := by decide +kernel
theorem dX2_passMonths_16 : decode cX2_passMonths 16 = .ok (.iconst 1, 1) := by decide +kernel
theorem dX2_passMonths_17 : decode cX2_passMonths 17 = .ok (.iadd, 1) := by decide +kernel
theorem dX2_passMonths_18 : decode cX2_passMonths 18 = .ok (.putfield 61, 3) := by decide +kernel
theorem dX2_passMonths_21 : decode cX2_passMonths 21 = .ok (.aload_n 0, 1) := by decide +kernel
theorem dX2_passMonths_22 : decode cX2_passMonths 22 = .ok (.invokevirtual 79, 3) := by decide +kernel
theorem dX2_passMonths_25 : decode cX2_passMonths 25 = .ok (.aload_n 0, 1) := by decide +kernel
theorem dX2_passMonths_26 : decode cX2_passMonths 26 = .ok (.invokevirtual 82, 3) := by decide +kernel
theorem dX2_passMonths_29 : decode cX2_passMonths 29 = .ok (.iconst 0, 1) := by decide +kernel
theorem dX2_passMonths_30 : decode cX2_passMonths 30 = .ok (.istore 6, 2) := by decide +kernel
theorem dX2_passMonths_32 : decode cX2_passMonths 32 = .ok (.iload 6, 2) := by decide +kernel
theorem dX2_passMonths_34 : decode cX2_passMonths 34 = .ok (.aload_n 0, 1) := by decide +kernel
theorem dX2_passMonths_35 : decode cX2_passMonths 35 = .ok (.getfield 10, 3) := by decide +kernel
theorem dX2_passMonths_38 : decode cX2_passMonths 38 = .ok (.invokevirtual 23, 3) := by decide +kernel
theorem dX2_passMonths_41 : decode cX2_passMonths 41 = .ok (.if_icmp .ge 26, 3) := by decide +kernel
theorem dX2_passMonths_44 : decode cX2_passMonths 44 = .ok (.aload_n 0, 1) := by decide +kernel
theorem dX2_passMonths_45 : decode cX2_passMonths 45 = .ok (.aload_n 0, 1) := by decide +kernel
theorem dX2_passMonths_46 : decode cX2_passMonths 46 = .ok (.getfield 10, 3) := by decide +kernel
theorem dX2_passMonths_49 : decode cX2_passMonths 49 = .ok (.iload 6, 2) := by decide +kernel
theorem dX2_passMonths_51 : decode cX2_passMonths 51 = .ok (.invokevirtual 27, 3) := by decide +kernel
theorem dX2_passMonths_54 : decode cX2_passMonths 54 = .ok (.checkcast 31, 3) := by decide +kernel
theorem dX2_passMonths_57 : decode cX2_passMonths 57 = .ok (.aload_n 2, 1) := by decide +kernel
theorem dX2_passMonths_58 : decode cX2_passMonths 58 = .ok (.invokevirtual 85, 3) := by decide +kernel
theorem dX2_passMonths_61 : decode cX2_passMonths 61 = .ok (.iinc 6 1, 3) := by decide +kernel
theorem dX2_passMonths_64 : decode cX2_passMonths 64 = .ok (.goto (-32), 3) := by decide +kernel
theorem dX2_passMonths_67 : decode cX2_passMonths 67 = .ok (.iconst 0, 1) := by decide +kernel
theorem dX2_passMonths_68 : decode cX2_passMonths 68 = .ok (.istore 6, 2) := by decide +kernel
theorem dX2_passMonths_70 : decode cX2_passMonths 70 = .ok (.iload 6, 2) := by decide +kernel
theorem dX2_passMonths_72 : decode cX2_passMonths 72 = .ok (.aload_n 0, 1) := by decide +kernel
theorem dX2_passMonths_73 : decode cX2_passMonths 73 = .ok (.getfield 10, 3) := by decide +kernel
theorem dX2_passMonths_76 : decode cX2_passMonths 76 = .ok (.invokevirtual 23, 3) := by decide +kernel
theorem dX2_passMonths_79 : decode cX2_passMonths 79 = .ok (.if_icmp .ge 27, 3) := by decide +kernel
theorem dX2_passMonths_82 : decode cX2_passMonths 82 = .ok (.lload_n 3, 1) := by decide +kernel
theorem dX2_passMonths_83 : decode cX2_passMonths 83 = .ok (.aload_n 0, 1) := by decide +kernel
theorem dX2_passMonths_84 : decode cX2_passMonths 84 = .ok (.getfield 10, 3) := by decide +kernel
theorem dX2_passMonths_87 : decode cX2_passMonths 87 = .ok (.iload 6, 2) := by decide +kernel
theorem dX2_passMonths_89 : decode cX2_passMonths 89 = .ok (.invokevirtual 27, 3) := by decide +kernel
theorem dX2_passMonths_92 : decode cX2_passMonths 92 = .ok (.checkcast 31, 3) := by decide +kernel
theorem dX2_passMonths_95 : decode cX2_passMonths 95 = .ok (.invokevirtual 89, 3) := by decide +kernel
theorem dX2_passMonths_98 : decode cX2_passMonths 98 = .ok (.ladd, 1) := by decide +kernel
theorem dX2_passMonths_99 : decode cX2_passMonths 99 = .ok (.lstore_n 3, 1) := by decide +kernel
theorem dX2_passMonths_100 : decode cX2_passMonths 100 = .ok (.iinc 6 1, 3) := by decide +kernel
theorem dX2_passMonths_103 : decode cX2_passMonths 103 = .ok (.goto (-33), 3) := by decide +kernel
theorem dX2_passMonths_106 : decode cX2_passMonths 106 = .ok (.aload_n 0, 1) := by decide +kernel
theorem dX2_passMonths_107 : decode cX2_passMonths 107 = .ok (.aload_n 2, 1) := by decide +kernel
theorem dX2_passMonths_108 : decode cX2_passMonths 108 = .ok (.invokevirtual 92, 3) := by decide +kernel
theorem dX2_passMonths_111 : decode cX2_passMonths 111 = .ok (.iinc 5 1, 3) := by decide +kernel
theorem dX2_passMonths_114 : decode cX2_passMonths 114 = .ok (.goto (-109), 3) := by decide +kernel
theorem dX2_passMonths_117 : decode cX2_passMonths 117 = .ok (.lload_n 3, 1) := by decide +kernel
theorem dX2_passMonths_118 : decode cX2_passMonths 118 = .ok (.lreturn, 1) := by decide +kernel
theorem dX2_imitate_0 : decode cX2_imitate 0 = .ok (.aload_n 0, 1) := by decide +kernel
theorem dX2_imitate_1 : decode cX2_imitate 1 = .ok (.aload_n 1, 1) := by decide +kernel
theorem dX2_imitate_2 : decode cX2_imitate 2 = .ok (.getfield 61, 3) := by decide +kernel
theorem dX2_imitate_5 : decode cX2_imitate 5 = .ok (.putfield 61, 3) := by decide +kernel
theorem dX2_imitate_8 : decode cX2_imitate 8 = .ok (.aload_n 0, 1) := by decide +kernel
theorem dX2_imitate_9 : decode cX2_imitate 9 = .ok (.aload_n 1, 1) := by decide +kernel
theorem dX2_imitate_10 : decode cX2_imitate 10 = .ok (.getfield 96, 3) := by decide +kernel
theorem dX2_imitate_13 : decode cX2_imitate 13 = .ok (.putfield 96, 3) := by decide +kernel
theorem dX2_imitate_16 : decode cX2_imitate 16 = .ok (.aload_n 0, 1) := by decide +kernel
theorem dX2_imitate_17 : decode cX2_imitate 17 = .ok (.getfield 19, 3) := by decide +kernel
theorem dX2_imitate_20 : decode cX2_imitate 20 = .ok (.aload_n 1, 1) := by decide +kernel
theorem dX2_imitate_21 : decode cX2_imitate 21 = .ok (.getfield 19, 3) := by decide +kernel
theorem dX2_imitate_24 : decode cX2_imitate 24 = .ok (.invokevirtual 99, 3) := by decide +kernel
theorem dX2_imitate_27 : decode cX2_imitate 27 = .ok (.iconst 0, 1) := by decide +kernel
theorem dX2_imitate_28 : decode cX2_imitate 28 = .ok (.istore_n 2, 1) := by decide +kernel
theorem dX2_imitate_29 : decode cX2_imitate 29 = .ok (.iload_n 2, 1) := by decide +kernel
theorem dX2_imitate_30 : decode cX2_imitate 30 = .ok (.aload_n 1, 1) := by decide +kernel
theorem dX2_imitate_31 : decode cX2_imitate 31 = .ok (.getfield 10, 3) := by decide +kernel
theorem dX2_imitate_34 : decode cX2_imitate 34 = .ok (.invokevirtual 23, 3) := by decide +kernel
theorem dX2_imitate_37 : decode cX2_imitate 37 = .ok (.if_icmp .ge 63, 3) := by decide +kernel
theorem dX2_imitate_40 : decode cX2_imitate 40 = .ok (.iload_n 2, 1) := by decide +kernel
theorem dX2_imitate_41 : decode cX2_imitate 41 = .ok (.aload_n 0, 1) := by decide +kernel
theorem dX2_imitate_42 : decode cX2_imitate 42 = .ok (.getfield 10, 3) := by decide +kernel
theorem dX2_imitate_45 : decode cX2_imitate 45 = .ok (.invokevirtual 23, 3) := by decide +kernel
theorem dX2_imitate_48 : decode cX2_imitate 48 = .ok (.if_icmp .lt 21, 3) := by decide +kernel
theorem dX2_imitate_51 : decode cX2_imitate 51 = .ok (.aload_n 0, 1) := by decide +kernel
theorem dX2_imitate_52 : decode cX2_imitate 52 = .ok (.getfield 10, 3) := by decide +kernel
theorem dX2_imitate_55 : decode cX2_imitate 55 = .ok (.new 31, 3) := by decide +kernel
theorem dX2_imitate_58 : decode cX2_imitate 58 = .ok (.dup, 1) := by decide +kernel
theorem dX2_imitate_59 : decode cX2_imitate 59 = .ok (.iconst 0, 1) := by decide +kernel
theorem dX2_imitate_60 : decode cX2_imitate 60 = .ok (.iconst 0, 1) := by decide +kernel
theorem dX2_imitate_61 : decode cX2_imitate 61 = .ok (.iconst 0, 1) := by decide +kernel
theorem dX2_imitate_62 : decode cX2_imitate 62 = .ok (.invokespecial 103, 3) := by decide +kernel
theorem dX2_imitate_65 : decode cX2_imitate 65 = .ok (.invokevirtual 33, 3) := by decide +kernel
theorem dX2_imitate_68 : decode cX2_imitate 68 = .ok (.pop, 1) := by decide +kernel
theorem dX2_imitate_69 : decode cX2_imitate 69 = .ok (.aload_n 0, 1) := by decide +kernel
theorem dX2_imitate_70 : decode cX2_imitate 70 = .ok (.getfield 10, 3) := by decide +kernel
theorem dX2_imitate_73 : decode cX2_imitate 73 = .ok (.iload_n 2, 1) := by decide +kernel
theorem dX2_imitate_74 : decode cX2_imitate 74 = .ok (.invokevirtual 27, 3) := by decide +kernel
theorem dX2_imitate_77 : decode cX2_imitate 77 = .ok (.checkcast 31, 3) := by decide +kernel
theorem dX2_imitate_80 : decode cX2_imitate 80 = .ok (.aload_n 1, 1) := by decide +kernel
theorem dX2_imitate_81 : decode cX2_imitate 81 = .ok (.getfield 10, 3) := by decide +kernel
theorem dX2_imitate_84 : decode cX2_imitate 84 = .ok (.iload_n 2, 1) := by decide +kernel
theorem dX2_imitate_85 : decode cX2_imitate 85 = .ok (.invokevirtual 27, 3) := by decide +kernel
theorem dX2_imitate_88 : decode cX2_imitate 88 = .ok (.checkcast 31, 3) := by decide +kernel
theorem dX2_imitate_91 : decode cX2_imitate 91 = .ok (.invokevirtual 105, 3) := by decide +kernel
theorem dX2_imitate_94 : decode cX2_imitate 94 = .ok (.iinc 2 1, 3) := by decide +kernel
theorem dX2_imitate_97 : decode cX2_imitate 97 = .ok (.goto (-68), 3) := by decide +kernel
theorem dX2_imitate_100 : decode cX2_imitate 100 = .ok (.return_, 1) := by decide +kernel
theorem dX2_unload_0 : decode cX2_unload 0 = .ok (.iconst 0, 1) := by decide +kernel
theorem dX2_unload_1 : decode cX2_unload 1 = .ok (.istore_n 1, 1) := by decide +kernel
theorem dX2_unload_2 : decode cX2_unload 2 = .ok (.iload_n 1, 1) := by decide +kernel
theorem dX2_unload_3 : decode cX2_unload 3 = .ok (.aload_n 0, 1) := by decide +kernel
theorem dX2_unload_4 : decode cX2_unload 4 = .ok (.getfield 19, 3) := by decide +kernel
theorem dX2_unload_7 : decode cX2_unload 7 = .ok (.invokevirtual 108, 3) := by decide +kernel
theorem dX2_unload_10 : decode cX2_unload 10 = .ok (.if_icmp .ge 57, 3) := by decide +kernel
theorem dX2_unload_13 : decode cX2_unload 13 = .ok (.aload_n 0, 1) := by decide +kernel
theorem dX2_unload_14 : decode cX2_unload 14 = .ok (.aload_n 0, 1) := by decide +kernel
theorem dX2_unload_15 : decode cX2_unload 15 = .ok (.getfield 19, 3) := by decide +kernel
theorem dX2_unload_18 : decode cX2_unload 18 = .ok (.iload_n 1, 1) := by decide +kernel
theorem dX2_unload_19 : decode cX2_unload 19 = .ok (.invokevirtual 109, 3) := by decide +kernel
theorem dX2_unload_22 : decode cX2_unload 22 = .ok (.invokevirtual 41, 3) := by decide +kernel
theorem dX2_unload_25 : decode cX2_unload 25 = .ok (.astore_n 2, 1) := by decide +kernel
theorem dX2_unload_26 : decode cX2_unload 26 = .ok (.aload_n 2, 1) := by decide +kernel
theorem dX2_unload_27 : decode cX2_unload 27 = .ok (.ifnull 34, 3) := by decide +kernel
theorem dX2_unload_30 : decode cX2_unload 30 = .ok (.aload_n 0, 1) := by decide +kernel
theorem dX2_unload_31 : decode cX2_unload 31 = .ok (.getfield 19, 3) := by decide +kernel
theorem dX2_unload_34 : decode cX2_unload 34 = .ok (.iload_n 1, 1) := by decide +kernel
theorem dX2_unload_35 : decode cX2_unload 35 = .ok (.aload_n 0, 1) := by decide +kernel
theorem dX2_unload_36 : decode cX2_unload 36 = .ok (.getfield 61, 3) := by decide +kernel
theorem dX2_unload_39 : decode cX2_unload 39 = .ok (.invokevirtual 112, 3) := by decide +kernel
theorem dX2_unload_42 : decode cX2_unload 42 = .ok (.ifCond .eq 19, 3) := by decide +kernel
theorem dX2_unload_45 : decode cX2_unload 45 = .ok (.aload_n 2, 1) := by decide +kernel
theorem dX2_unload_46 : decode cX2_unload 46 = .ok (.aload_n 0, 1) := by decide +kernel
theorem dX2_unload_47 : decode cX2_unload 47 = .ok (.getfield 19, 3) := by decide +kernel
theorem dX2_unload_50 : decode cX2_unload 50 = .ok (.iload_n 1, 1) := by decide +kernel
theorem dX2_unload_51 : decode cX2_unload 51 = .ok (.invokevirtual 116, 3) := by decide +kernel
theorem dX2_unload_54 : decode cX2_unload 54 = .ok (.aload_n 0, 1) := by decide +kernel
theorem dX2_unload_55 : decode cX2_unload 55 = .ok (.getfield 61, 3) := by decide +kernel
theorem dX2_unload_58 : decode cX2_unload 58 = .ok (.invokevirtual 119, 3) := by decide +kernel
theorem dX2_unload_61 : decode cX2_unload 61 = .ok (.iinc 1 1, 3) := by decide +kernel
theorem dX2_unload_64 : decode cX2_unload 64 = .ok (.goto (-62), 3) := by decide +kernel
theorem dX2_unload_67 : decode cX2_unload 67 = .ok (.aload_n 0, 1) := by decide +kernel
theorem dX2_unload_68 : decode cX2_unload 68 = .ok (.getfield 19, 3) := by decide +kernel
theorem dX2_unload_71 : decode cX2_unload 71 = .ok (.aload_n 0, 1) := by decide +kernel
theorem dX2_unload_72 : decode cX2_unload 72 = .ok (.getfield 61, 3) := by decide +kernel
theorem dX2_unload_75 : decode cX2_unload 75 = .ok (.invokevirtual 123, 3) := by decide +kernel
theorem dX2_unload_78 : decode cX2_unload 78 = .ok (.return_, 1) := by decide +kernel
theorem dX2_reapAndPayBack_0 : decode cX2_reapAndPayBack 0 = .ok (.iconst 0, 1) := by decide +kernel
theorem dX2_reapAndPayBack_1 : decode cX2_reapAndPayBack 1 = .ok (.istore_n 1, 1) := by decide +kernel
theorem dX2_reapAndPayBack_2 : decode cX2_reapAndPayBack 2 = .ok (.iload_n 1, 1) := by decide +kernel
theorem dX2_reapAndPayBack_3 : decode cX2_reapAndPayBack 3 = .ok (.aload_n 0, 1) := by decide +kernel
theorem dX2_reapAndPayBack_4 : decode cX2_reapAndPayBack 4 = .ok (.getfield 10, 3) := by decide +kernel
theorem dX2_reapAndPayBack_7 : decode cX2_reapAndPayBack 7 = .ok (.invokevirtual 23, 3) := by decide +kernel
theorem dX2_reapAndPayBack_10 : decode cX2_reapAndPayBack 10 = .ok (.if_icmp .ge 45, 3) := by decide +kernel
theorem dX2_reapAndPayBack_13 : decode cX2_reapAndPayBack 13 = .ok (.aload_n 0, 1) := by decide +kernel
theorem dX2_reapAndPayBack_14 : decode cX2_reapAndPayBack 14 = .ok (.getfield 10, 3) := by decide +kernel
theorem dX2_reapAndPayBack_17 : decode cX2_reapAndPayBack 17 = .ok (.iload_n 1, 1) := by decide +kernel
theorem dX2_reapAndPayBack_18 : decode cX2_reapAndPayBack 18 = .ok (.invokevirtual 27, 3) := by decide +kernel
theorem dX2_reapAndPayBack_21 : decode cX2_reapAndPayBack 21 = .ok (.checkcast 31, 3) := by decide +kernel
theorem dX2_reapAndPayBack_24 : decode cX2_reapAndPayBack 24 = .ok (.astore_n 2, 1) := by decide +kernel
theorem dX2_reapAndPayBack_25 : decode cX2_reapAndPayBack 25 = .ok (.aload_n 2, 1) := by decide +kernel
theorem dX2_reapAndPayBack_26 : decode cX2_reapAndPayBack 26 = .ok (.invokevirtual 126, 3) := by decide +kernel
theorem dX2_reapAndPayBack_29 : decode cX2_reapAndPayBack 29 = .ok (.aload_n 0, 1) := by decide +kernel
theorem dX2_reapAndPayBack_30 : decode cX2_reapAndPayBack 30 = .ok (.getfield 61, 3) := by decide +kernel
theorem dX2_reapAndPayBack_33 : decode cX2_reapAndPayBack 33 = .ok (.bipush 12, 2) := by decide +kernel
theorem dX2_reapAndPayBack_35 : decode cX2_reapAndPayBack 35 = .ok (.irem, 1) := by decide +kernel
theorem dX2_reapAndPayBack_36 : decode cX2_reapAndPayBack 36 = .ok (.bipush 9, 2) := by decide +kernel
theorem dX2_reapAndPayBack_38 : decode cX2_reapAndPayBack 38 = .ok (.if_icmp .ne 11, 3) := by decide +kernel
theorem dX2_reapAndPayBack_41 : decode cX2_reapAndPayBack 41 = .ok (.aload_n 2, 1) := by decide +kernel
theorem dX2_reapAndPayBack_42 : decode cX2_reapAndPayBack 42 = .ok (.aload_n 0, 1) := by decide +kernel
theorem dX2_reapAndPayBack_43 : decode cX2_reapAndPayBack 43 = .ok (.getfield 61, 3) := by decide +kernel
theorem dX2_reapAndPayBack_46 : decode cX2_reapAndPayBack 46 = .ok (.invokevirtual 129, 3) := by decide +kernel
theorem dX2_reapAndPayBack_49 : decode cX2_reapAndPayBack 49 = .ok (.iinc 1 1, 3) := by decide +kernel
theorem dX2_reapAndPayBack_52 : decode cX2_reapAndPayBack 52 = .ok (.goto (-50), 3) := by decide +kernel
theorem dX2_reapAndPayBack_55 : decode cX2_reapAndPayBack 55 = .ok (.return_, 1) := by decide +kernel
theorem dX2_trade_0 : decode cX2_trade 0 = .ok (.aload_n 1, 1) := by decide +kernel
theorem dX2_trade_1 : decode cX2_trade 1 = .ok (.invokevirtual 132, 3) := by decide +kernel
theorem dX2_trade_4 : decode cX2_trade 4 = .ok (.istore_n 3, 1) := by decide +kernel
theorem dX2_trade_5 : decode cX2_trade 5 = .ok (.iload_n 3, 1) := by decide +kernel
theorem dX2_trade_6 : decode cX2_trade 6 = .ok (.aload_n 2, 1) := by decide +kernel
theorem dX2_trade_7 : decode cX2_trade 7 = .ok (.iconst 0, 1) := by decide +kernel
theorem dX2_trade_8 : decode cX2_trade 8 = .ok (.invokevirtual 137, 3) := by decide +kernel
theorem dX2_trade_11 : decode cX2_trade 11 = .ok (.if_icmp .gt 75, 3) := by decide +kernel
theorem dX2_trade_14 : decode cX2_trade 14 = .ok (.aload_n 2, 1) := by decide +kernel
theorem dX2_trade_15 : decode cX2_trade 15 = .ok (.iconst 1, 1) := by decide +kernel
theorem dX2_trade_16 : decode cX2_trade 16 = .ok (.invokevirtual 137, 3) := by decide +kernel
theorem dX2_trade_19 : decode cX2_trade 19 = .ok (.i2l, 1) := by decide +kernel
theorem dX2_trade_20 : decode cX2_trade 20 = .ok (.aload_n 1, 1) := by decide +kernel
theorem dX2_trade_21 : decode cX2_trade 21 = .ok (.getfield 45, 3) := by decide +kernel
theorem dX2_trade_24 : decode cX2_trade 24 = .ok (.invokevirtual 140, 3) := by decide +kernel
theorem dX2_trade_27 : decode cX2_trade 27 = .ok (.i2l, 1) := by decide +kernel
theorem dX2_trade_28 : decode cX2_trade 28 = .ok (.aload_n 1, 1) := by decide +kernel
theorem dX2_trade_29 : decode cX2_trade 29 = .ok (.getfield 143, 3) := by decide +kernel
theorem dX2_trade_32 : decode cX2_trade 32 = .ok (.invokestatic 146, 3) := by decide +kernel
theorem dX2_trade_35 : decode cX2_trade 35 = .ok (.invokestatic 146, 3) := by decide +kernel
theorem dX2_trade_38 : decode cX2_trade 38 = .ok (.lstore 4, 2) := by decide +kernel
theorem dX2_trade_40 : decode cX2_trade 40 = .ok (.iload_n 3, 1) := by decide +kernel
theorem dX2_trade_41 : decode cX2_trade 41 = .ok (.ifCond .le 17, 3) := by decide +kernel
theorem dX2_trade_44 : decode cX2_trade 44 = .ok (.lload 4, 2) := by decide +kernel
theorem dX2_trade_46 : decode cX2_trade 46 = .ok (.aload_n 0, 1) := by decide +kernel
theorem dX2_trade_47 : decode cX2_trade 47 = .ok (.getfield 96, 3) := by decide +kernel
theorem dX2_trade_50 : decode cX2_trade 50 = .ok (.iload_n 3, 1) := by decide +kernel
theorem dX2_trade_51 : decode cX2_trade 51 = .ok (.i2l, 1) := by decide +kernel
theorem dX2_trade_52 : decode cX2_trade 52 = .ok (.ldiv, 1) := by decide +kernel
theorem dX2_trade_53 : decode cX2_trade 53 = .ok (.invokestatic 146, 3) := by decide +kernel
theorem dX2_trade_56 : decode cX2_trade 56 = .ok (.lstore 4, 2) := by decide +kernel
theorem dX2_trade_58 : decode cX2_trade 58 = .ok (.aload_n 0, 1) := by decide +kernel
theorem dX2_trade_59 : decode cX2_trade 59 = .ok (.dup, 1) := by decide +kernel
theorem dX2_trade_60 : decode cX2_trade 60 = .ok (.getfield 96, 3) := by decide +kernel
theorem dX2_trade_63 : decode cX2_trade 63 = .ok (.lload 4, 2) := by decide +kernel
theorem dX2_trade_65 : decode cX2_trade 65 = .ok (.iload_n 3, 1) := by decide +kernel
theorem dX2_trade_66 : decode cX2_trade 66 = .ok (.i2l, 1) := by decide +kernel
theorem dX2_trade_67 : decode cX2_trade 67 = .ok (.lmul, 1) := by decide +kernel
theorem dX2_trade_68 : decode cX2_trade 68 = .ok (.lsub, 1) := by decide +kernel
theorem dX2_trade_69 : decode cX2_trade 69 = .ok (.putfield 96, 3) := by decide +kernel
theorem dX2_trade_72 : decode cX2_trade 72 = .ok (.aload_n 1, 1) := by decide +kernel
theorem dX2_trade_73 : decode cX2_trade 73 = .ok (.lload 4, 2) := by decide +kernel
theorem dX2_trade_75 : decode cX2_trade 75 = .ok (.l2i, 1) := by decide +kernel
theorem dX2_trade_76 : decode cX2_trade 76 = .ok (.aload_n 0, 1) := by decide +kernel
theorem dX2_trade_77 : decode cX2_trade 77 = .ok (.getfield 61, 3) := by decide +kernel
theorem dX2_trade_80 : decode cX2_trade 80 = .ok (.invokevirtual 152, 3) := by decide +kernel
theorem dX2_trade_83 : decode cX2_trade 83 = .ok (.goto 50, 3) := by decide +kernel
theorem dX2_trade_86 : decode cX2_trade 86 = .ok (.iload_n 3, 1) := by decide +kernel
theorem dX2_trade_87 : decode cX2_trade 87 = .ok (.aload_n 2, 1) := by decide +kernel
theorem dX2_trade_88 : decode cX2_trade 88 = .ok (.iconst 2, 1) := by decide +kernel
theorem dX2_trade_89 : decode cX2_trade 89 = .ok (.invokevirtual 137, 3) := by decide +kernel
theorem dX2_trade_92 : decode cX2_trade 92 = .ok (.if_icmp .lt 41, 3) := by decide +kernel
theorem dX2_trade_95 : decode cX2_trade 95 = .ok (.aload_n 2, 1) := by decide +kernel
theorem dX2_trade_96 : decode cX2_trade 96 = .ok (.iconst 3, 1) := by decide +kernel
theorem dX2_trade_97 : decode cX2_trade 97 = .ok (.invokevirtual 137, 3) := by decide +kernel
theorem dX2_trade_100 : decode cX2_trade 100 = .ok (.aload_n 1, 1) := by decide +kernel
theorem dX2_trade_101 : decode cX2_trade 101 = .ok (.getfield 45, 3) := by decide +kernel
theorem dX2_trade_104 : decode cX2_trade 104 = .ok (.invokevirtual 155, 3) := by decide +kernel
theorem dX2_trade_107 : decode cX2_trade 107 = .ok (.invokestatic 158, 3) := by decide +kernel
theorem dX2_trade_110 : decode cX2_trade 110 = .ok (.istore 4, 2) := by decide +kernel
theorem dX2_trade_112 : decode cX2_trade 112 = .ok (.aload_n 0, 1) := by decide +kernel
theorem dX2_trade_113 : decode cX2_trade 113 = .ok (.dup, 1) := by decide +kernel
theorem dX2_trade_114 : decode cX2_trade 114 = .ok (.getfield 96, 3) := by decide +kernel
theorem dX2_trade_117 : decode cX2_trade 117 = .ok (.iload 4, 2) := by decide +kernel
theorem dX2_trade_119 : decode cX2_trade 119 = .ok (.i2l, 1) := by decide +kernel
theorem dX2_trade_120 : decode cX2_trade 120 = .ok (.iload_n 3, 1) := by decide +kernel
theorem dX2_trade_121 : decode cX2_trade 121 = .ok (.i2l, 1) := by decide +kernel
theorem dX2_trade_122 : decode cX2_trade 122 = .ok (.lmul, 1) := by decide +kernel
theorem dX2_trade_123 : decode cX2_trade 123 = .ok (.ladd, 1) := by decide +kernel
theorem dX2_trade_124 : decode cX2_trade 124 = .ok (.putfield 96, 3) := by decide +kernel
theorem dX2_trade_127 : decode cX2_trade 127 = .ok (.aload_n 1, 1) := by decide +kernel
theorem dX2_trade_128 : decode cX2_trade 128 = .ok (.iload 4, 2) := by decide +kernel
theorem dX2_trade_130 : decode cX2_trade 130 = .ok (.invokevirtual 161, 3) := by decide +kernel
theorem dX2_trade_133 : decode cX2_trade 133 = .ok (.return_, 1) := by decide +kernel
theorem dX2_ageStores_0 : decode cX2_ageStores 0 = .ok (.aload_n 0, 1) := by decide +kernel
theorem dX2_ageStores_1 : decode cX2_ageStores 1 = .ok (.getfield 61, 3) := by decide +kernel
theorem dX2_ageStores_4 : decode cX2_ageStores 4 = .ok (.aload_n 1, 1) := by decide +kernel
theorem dX2_ageStores_5 : decode cX2_ageStores 5 = .ok (.iconst 5, 1) := by decide +kernel
theorem dX2_ageStores_6 : decode cX2_ageStores 6 = .ok (.invokevirtual 137, 3) := by decide +kernel
theorem dX2_ageStores_9 : decode cX2_ageStores 9 = .ok (.isub, 1) := by decide +kernel
theorem dX2_ageStores_10 : decode cX2_ageStores 10 = .ok (.istore_n 2, 1) := by decide +kernel
theorem dX2_ageStores_11 : decode cX2_ageStores 11 = .ok (.aload_n 0, 1) := by decide +kernel
theorem dX2_ageStores_12 : decode cX2_ageStores 12 = .ok (.getfield 61, 3) := by decide +kernel
theorem dX2_ageStores_15 : decode cX2_ageStores 15 = .ok (.bipush 12, 2) := by decide +kernel
theorem dX2_ageStores_17 : decode cX2_ageStores 17 = .ok (.irem, 1) := by decide +kernel
theorem dX2_ageStores_18 : decode cX2_ageStores 18 = .ok (.ifCond .ne 7, 3) := by decide +kernel
theorem dX2_ageStores_21 : decode cX2_ageStores 21 = .ok (.iconst 1, 1) := by decide +kernel
theorem dX2_ageStores_22 : decode cX2_ageStores 22 = .ok (.goto 4, 3) := by decide +kernel
theorem dX2_ageStores_25 : decode cX2_ageStores 25 = .ok (.iconst 0, 1) := by decide +kernel
theorem dX2_ageStores_26 : decode cX2_ageStores 26 = .ok (.istore_n 3, 1) := by decide +kernel
theorem dX2_ageStores_27 : decode cX2_ageStores 27 = .ok (.iconst 0, 1) := by decide +kernel
theorem dX2_ageStores_28 : decode cX2_ageStores 28 = .ok (.istore 4, 2) := by decide +kernel
theorem dX2_ageStores_30 : decode cX2_ageStores 30 = .ok (.iload 4, 2) := by decide +kernel
theorem dX2_ageStores_32 : decode cX2_ageStores 32 = .ok (.aload_n 0, 1) := by decide +kernel
theorem dX2_ageStores_33 : decode cX2_ageStores 33 = .ok (.getfield 10, 3) := by decide +kernel
theorem dX2_ageStores_36 : decode cX2_ageStores 36 = .ok (.invokevirtual 23, 3) := by decide +kernel
theorem dX2_ageStores_39 : decode cX2_ageStores 39 = .ok (.if_icmp .ge 54, 3) := by decide +kernel
theorem dX2_ageStores_42 : decode cX2_ageStores 42 = .ok (.aload_n 0, 1) := by decide +kernel
theorem dX2_ageStores_43 : decode cX2_ageStores 43 = .ok (.getfield 10, 3) := by decide +kernel
theorem dX2_ageStores_46 : decode cX2_ageStores 46 = .ok (.iload 4, 2) := by decide +kernel
theorem dX2_ageStores_48 : decode cX2_ageStores 48 = .ok (.invokevirtual 27, 3) := by decide +kernel
theorem dX2_ageStores_51 : decode cX2_ageStores 51 = .ok (.checkcast 31, 3) := by decide +kernel
theorem dX2_ageStores_54 : decode cX2_ageStores 54 = .ok (.astore 5, 2) := by decide +kernel
theorem dX2_ageStores_56 : decode cX2_ageStores 56 = .ok (.aload 5, 2) := by decide +kernel
theorem dX2_ageStores_58 : decode cX2_ageStores 58 = .ok (.iload_n 2, 1) := by decide +kernel
theorem dX2_ageStores_59 : decode cX2_ageStores 59 = .ok (.aload_n 1, 1) := by decide +kernel
theorem dX2_ageStores_60 : decode cX2_ageStores 60 = .ok (.bipush 6, 2) := by decide +kernel
theorem dX2_ageStores_62 : decode cX2_ageStores 62 = .ok (.invokevirtual 137, 3) := by decide +kernel
theorem dX2_ageStores_65 : decode cX2_ageStores 65 = .ok (.invokevirtual 164, 3) := by decide +kernel
theorem dX2_ageStores_68 : decode cX2_ageStores 68 = .ok (.iload_n 3, 1) := by decide +kernel
theorem dX2_ageStores_69 : decode cX2_ageStores 69 = .ok (.ifCond .eq 18, 3) := by decide +kernel
theorem dX2_ageStores_72 : decode cX2_ageStores 72 = .ok (.aload 5, 2) := by decide +kernel
theorem dX2_ageStores_74 : decode cX2_ageStores 74 = .ok (.aload_n 1, 1) := by decide +kernel
theorem dX2_ageStores_75 : decode cX2_ageStores 75 = .ok (.bipush 7, 2) := by decide +kernel
theorem dX2_ageStores_77 : decode cX2_ageStores 77 = .ok (.invokevirtual 137, 3) := by decide +kernel
theorem dX2_ageStores_80 : decode cX2_ageStores 80 = .ok (.aload_n 0, 1) := by decide +kernel
theorem dX2_ageStores_81 : decode cX2_ageStores 81 = .ok (.getfield 61, 3) := by decide +kernel
theorem dX2_ageStores_84 : decode cX2_ageStores 84 = .ok (.invokevirtual 167, 3) := by decide +kernel
theorem dX2_ageStores_87 : decode cX2_ageStores 87 = .ok (.iinc 4 1, 3) := by decide +kernel
theorem dX2_ageStores_90 : decode cX2_ageStores 90 = .ok (.goto (-60), 3) := by decide +kernel
theorem dX2_ageStores_93 : decode cX2_ageStores 93 = .ok (.return_, 1) := by decide +kernel
theorem dX3_init_0 : decode cX3_init 0 = .ok (.aload_n 0, 1) := by decide +kernel
theorem dX3_init_1 : decode cX3_init 1 = .ok (.invokespecial 1, 3) := by decide +kernel
theorem dX3_init_4 : decode cX3_init 4 = .ok (.aload_n 0, 1) := by decide +kernel
theorem dX3_init_5 : decode cX3_init 5 = .ok (.iload_n 1, 1) := by decide +kernel
theorem dX3_init_6 : decode cX3_init 6 = .ok (.putfield 7, 3) := by decide +kernel
theorem dX3_init_9 : decode cX3_init 9 = .ok (.aload_n 0, 1) := by decide +kernel
theorem dX3_init_10 : decode cX3_init 10 = .ok (.iload_n 2, 1) := by decide +kernel
theorem dX3_init_11 : decode cX3_init 11 = .ok (.putfield 13, 3) := by decide +kernel
theorem dX3_init_14 : decode cX3_init 14 = .ok (.aload_n 0, 1) := by decide +kernel
theorem dX3_init_15 : decode cX3_init 15 = .ok (.iload_n 3, 1) := by decide +kernel
theorem dX3_init_16 : decode cX3_init 16 = .ok (.putfield 16, 3) := by decide +kernel
theorem dX3_init_19 : decode cX3_init 19 = .ok (.aload_n 0, 1) := by decide +kernel
theorem dX3_init_20 : decode cX3_init 20 = .ok (.iload 4, 2) := by decide +kernel
theorem dX3_init_22 : decode cX3_init 22 = .ok (.putfield 19, 3) := by decide +kernel
theorem dX3_init_25 : decode cX3_init 25 = .ok (.return_, 1) := by decide +kernel
theorem dX3_touches_0 : decode cX3_touches 0 = .ok (.iload_n 1, 1) := by decide +kernel
theorem dX3_touches_1 : decode cX3_touches 1 = .ok (.aload_n 0, 1) := by decide +kernel
theorem dX3_touches_2 : decode cX3_touches 2 = .ok (.getfield 7, 3) := by decide +kernel
theorem dX3_touches_5 : decode cX3_touches 5 = .ok (.if_icmp .eq 11, 3) := by decide +kernel
theorem dX3_touches_8 : decode cX3_touches 8 = .ok (.iload_n 1, 1) := by decide +kernel
theorem dX3_touches_9 : decode cX3_touches 9 = .ok (.aload_n 0, 1) := by decide +kernel
theorem dX3_touches_10 : decode cX3_touches 10 = .ok (.getfield 13, 3) := by decide +kernel
theorem dX3_touches_13 : decode cX3_touches 13 = .ok (.if_icmp .ne 7, 3) := by decide +kernel
theorem dX3_touches_16 : decode cX3_touches 16 = .ok (.iconst 1, 1) := by decide +kernel
theorem dX3_touches_17 : decode cX3_touches 17 = .ok (.goto 4, 3) := by decide +kernel
theorem dX3_touches_20 : decode cX3_touches 20 = .ok (.iconst 0, 1) := by decide +kernel
theorem dX3_touches_21 : decode cX3_touches 21 = .ok (.ireturn, 1) := by decide +kernel
theorem dX3_otherEnd_0 : decode cX3_otherEnd 0 = .ok (.iload_n 1, 1) := by decide +kernel
theorem dX3_otherEnd_1 : decode cX3_otherEnd 1 = .ok (.aload_n 0, 1) := by decide +kernel
theorem dX3_otherEnd_2 : decode cX3_otherEnd 2 = .ok (.getfield 7, 3) := by decide +kernel
theorem dX3_otherEnd_5 : decode cX3_otherEnd 5 = .ok (.if_icmp .ne 10, 3) := by decide +kernel
theorem dX3_otherEnd_8 : decode cX3_otherEnd 8 = .ok (.aload_n 0, 1) := by decide +kernel
theorem dX3_otherEnd_9 : decode cX3_otherEnd 9 = .ok (.getfield 13, 3) := by decide +kernel
theorem dX3_otherEnd_12 : decode cX3_otherEnd 12 = .ok (.goto 7, 3) := by decide +kernel
theorem dX3_otherEnd_15 : decode cX3_otherEnd 15 = .ok (.aload_n 0, 1) := by decide +kernel
theorem dX3_otherEnd_16 : decode cX3_otherEnd 16 = .ok (.getfield 7, 3) := by decide +kernel
theorem dX3_otherEnd_19 : decode cX3_otherEnd 19 = .ok (.ireturn, 1) := by decide +kernel
theorem dX4_init_0 : decode cX4_init 0 = .ok (.aload_n 0, 1) := by decide +kernel
theorem dX4_init_1 : decode cX4_init 1 = .ok (.invokespecial 3, 3) := by decide +kernel
theorem dX4_init_4 : decode cX4_init 4 = .ok (.aload_n 0, 1) := by decide +kernel
theorem dX4_init_5 : decode cX4_init 5 = .ok (.bipush 40, 2) := by decide +kernel
theorem dX4_init_7 : decode cX4_init 7 = .ok (.newarray .int, 2) := by decide +kernel
theorem dX4_init_9 : decode cX4_init 9 = .ok (.putfield 11, 3) := by decide +kernel
theorem dX4_init_12 : decode cX4_init 12 = .ok (.aload_n 0, 1) := by decide +kernel
theorem dX4_init_13 : decode cX4_init 13 = .ok (.bipush 40, 2) := by decide +kernel
theorem dX4_init_15 : decode cX4_init 15 = .ok (.newarray .int, 2) := by decide +kernel
theorem dX4_init_17 : decode cX4_init 17 = .ok (.putfield 15, 3) := by decide +kernel
theorem dX4_init_20 : decode cX4_init 20 = .ok (.aload_n 0, 1) := by decide +kernel
theorem dX4_init_21 : decode cX4_init 21 = .ok (.bipush 40, 2) := by decide +kernel
theorem dX4_init_23 : decode cX4_init 23 = .ok (.newarray .int, 2) := by decide +kernel
theorem dX4_init_25 : decode cX4_init 25 = .ok (.putfield 18, 3) := by decide +kernel
theorem dX4_init_28 : decode cX4_init 28 = .ok (.aload_n 0, 1) := by decide +kernel
theorem dX4_init_29 : decode cX4_init 29 = .ok (.bipush 40, 2) := by decide +kernel
theorem dX4_init_31 : decode cX4_init 31 = .ok (.newarray .int, 2) := by decide +kernel
theorem dX4_init_33 : decode cX4_init 33 = .ok (.putfield 21, 3) := by decide +kernel
theorem dX4_init_36 : decode cX4_init 36 = .ok (.aload_n 0, 1) := by decide +kernel
theorem dX4_init_37 : decode cX4_init 37 = .ok (.iload_n 1, 1) := by decide +kernel
theorem dX4_init_38 : decode cX4_init 38 = .ok (.putfield 24, 3) := by decide +kernel
theorem dX4_init_41 : decode cX4_init 41 = .ok (.return_, 1) := by decide +kernel
theorem dX4_room_0 : decode cX4_room 0 = .ok (.aload_n 0, 1) := by decide +kernel
theorem dX4_room_1 : decode cX4_room 1 = .ok (.getfield 24, 3) := by decide +kernel
theorem dX4_room_4 : decode cX4_room 4 = .ok (.ireturn, 1) := by decide +kernel
theorem dX4_held_0 : decode cX4_held 0 = .ok (.aload_n 0, 1) := by decide +kernel
theorem dX4_held_1 : decode cX4_held 1 = .ok (.getfield 28, 3) := by decide +kernel
theorem dX4_held_4 : decode cX4_held 4 = .ok (.ireturn, 1) := by decide +kernel
theorem dX4_space_0 : decode cX4_space 0 = .ok (.aload_n 0, 1) := by decide +kernel
theorem dX4_space_1 : decode cX4_space 1 = .ok (.getfield 24, 3) := by decide +kernel
theorem dX4_space_4 : decode cX4_space 4 = .ok (.aload_n 0, 1) := by decide +kernel
theorem dX4_space_5 : decode cX4_space 5 = .ok (.getfield 28, 3) := by decide +kernel
theorem dX4_space_8 : decode cX4_space 8 = .ok (.isub, 1) := by decide +kernel
theorem dX4_space_9 : decode cX4_space 9 = .ok (.ireturn, 1) := by decide +kernel
theorem dX4_lotCount_0 : decode cX4_lotCount 0 = .ok (.aload_n 0, 1) := by decide +kernel
theorem dX4_lotCount_1 : decode cX4_lotCount 1 = .ok (.getfield 31, 3) := by decide +kernel
theorem dX4_lotCount_4 : decode cX4_lotCount 4 = .ok (.ireturn, 1) := by decide +kernel
theorem dX4_foundEver_0 : decode cX4_foundEver 0 = .ok (.aload_n 0, 1) := by decide +kernel
theorem dX4_foundEver_1 : decode cX4_foundEver 1 = .ok (.getfield 34, 3) := by decide +kernel
theorem dX4_foundEver_4 : decode cX4_foundEver 4 = .ok (.lreturn, 1) := by decide +kernel
theorem dX4_hasLot_0 : decode cX4_hasLot 0 = .ok (.iload_n 1, 1) := by decide +kernel
theorem dX4_hasLot_1 : decode cX4_hasLot 1 = .ok (.ifCond .lt 15, 3) := by decide +kernel
theorem dX4_hasLot_4 : decode cX4_hasLot 4 = .ok (.iload_n 1, 1) := by decide +kernel
theorem dX4_hasLot_5 : decode cX4_hasLot 5 = .ok (.aload_n 0, 1) := by decide +kernel
theorem dX4_hasLot_6 : decode cX4_hasLot 6 = .ok (.getfield 31, 3) := by decide +kernel
theorem dX4_hasLot_9 : decode cX4_hasLot 9 = .ok (.if_icmp .ge 7, 3) := by decide +kernel
theorem dX4_hasLot_12 : decode cX4_hasLot 12 = .ok (.iconst 1, 1) := by decide +kernel
theorem dX4_hasLot_13 : decode cX4_hasLot 13 = .ok (.goto 4, 3) := by decide +kernel
theorem dX4_hasLot_16 : decode cX4_hasLot 16 = .ok (.iconst 0, 1) := by decide +kernel
theorem dX4_hasLot_17 : decode cX4_hasLot 17 = .ok (.ireturn, 1) := by decide +kernel
theorem dX4_monthOf_0 : decode cX4_monthOf 0 = .ok (.aload_n 0, 1) := by decide +kernel
theorem dX4_monthOf_1 : decode cX4_monthOf 1 = .ok (.iload_n 1, 1) := by decide +kernel
theorem dX4_monthOf_2 : decode cX4_monthOf 2 = .ok (.invokevirtual 38, 3) := by decide +kernel
theorem dX4_monthOf_5 : decode cX4_monthOf 5 = .ok (.ifCond .eq 12, 3) := by decide +kernel
theorem dX4_monthOf_8 : decode cX4_monthOf 8 = .ok (.aload_n 0, 1) := by decide +kernel
theorem dX4_monthOf_9 : decode cX4_monthOf 9 = .ok (.getfield 11, 3) := by decide +kernel
theorem dX4_monthOf_12 : decode cX4_monthOf 12 = .ok (.iload_n 1, 1) := by decide +kernel
theorem dX4_monthOf_13 : decode cX4_monthOf 13 = .ok (.iaload, 1) := by decide +kernel
theorem dX4_monthOf_14 : decode cX4_monthOf 14 = .ok (.goto 4, 3) := by decide +kernel
theorem dX4_monthOf_17 : decode cX4_monthOf 17 = .ok (.iconst (-1), 1) := by decide +kernel
theorem dX4_monthOf_18 : decode cX4_monthOf 18 = .ok (.ireturn, 1) := by decide +kernel
theorem dX4_bookOf_0 : decode cX4_bookOf 0 = .ok (.aload_n 0, 1) := by decide +kernel
theorem dX4_bookOf_1 : decode cX4_bookOf 1 = .ok (.iload_n 1, 1) := by decide +kernel
theorem dX4_bookOf_2 : decode cX4_bookOf 2 = .ok (.invokevirtual 38, 3) := by decide +kernel
theorem dX4_bookOf_5 : decode cX4_bookOf 5 = .ok (.ifCond .eq 12, 3) := by decide +kernel
theorem dX4_bookOf_8 : decode cX4_bookOf 8 = .ok (.aload_n 0, 1) := by decide +kernel
theorem dX4_bookOf_9 : decode cX4_bookOf 9 = .ok (.getfield 15, 3) := by decide +kernel
theorem dX4_bookOf_12 : decode cX4_bookOf 12 = .ok (.iload_n 1, 1) := by decide +kernel
theorem dX4_bookOf_13 : decode cX4_bookOf 13 = .ok (.iaload, 1) := by decide +kernel
theorem dX4_bookOf_14 : decode cX4_bookOf 14 = .ok (.goto 4, 3) := by decide +kernel
theorem dX4_bookOf_17 : decode cX4_bookOf 17 = .ok (.iconst (-1), 1) := by decide +kernel
theorem dX4_bookOf_18 : decode cX4_bookOf 18 = .ok (.ireturn, 1) := by decide +kernel
theorem dX4_measuredOf_0 : decode cX4_measuredOf 0 = .ok (.aload_n 0, 1) := by decide +kernel
theorem dX4_measuredOf_1 : decode cX4_measuredOf 1 = .ok (.iload_n 1, 1) := by decide +kernel
theorem dX4_measuredOf_2 : decode cX4_measuredOf 2 = .ok (.invokevirtual 38, 3) := by decide +kernel
theorem dX4_measuredOf_5 : decode cX4_measuredOf 5 = .ok (.ifCond .eq 12, 3) := by decide +kernel
theorem dX4_measuredOf_8 : decode cX4_measuredOf 8 = .ok (.aload_n 0, 1) := by decide +kernel
theorem dX4_measuredOf_9 : decode cX4_measuredOf 9 = .ok (.getfield 21, 3) := by decide +kernel
theorem dX4_measuredOf_12 : decode cX4_measuredOf 12 = .ok (.iload_n 1, 1) := by decide +kernel
theorem dX4_measuredOf_13 : decode cX4_measuredOf 13 = .ok (.iaload, 1) := by decide +kernel
theorem dX4_measuredOf_14 : decode cX4_measuredOf 14 = .ok (.goto 4, 3) := by decide +kernel
theorem dX4_measuredOf_17 : decode cX4_measuredOf 17 = .ok (.iconst (-1), 1) := by decide +kernel
theorem dX4_measuredOf_18 : decode cX4_measuredOf 18 = .ok (.ireturn, 1) := by decide +kernel
theorem dX4_bookInAll_0 : decode cX4_bookInAll 0 = .ok (.lconst 0, 1) := by decide +kernel
theorem dX4_bookInAll_1 : decode cX4_bookInAll 1 = .ok (.lstore_n 1, 1) := by decide +kernel
theorem dX4_bookInAll_2 : decode cX4_bookInAll 2 = .ok (.iconst 0, 1) := by decide +kernel
theorem dX4_bookInAll_3 : decode cX4_bookInAll 3 = .ok (.istore_n 3, 1) := by decide +kernel
theorem dX4_bookInAll_4 : decode cX4_bookInAll 4 = .ok (.iload_n 3, 1) := by decide +kernel
theorem dX4_bookInAll_5 : decode cX4_bookInAll 5 = .ok (.aload_n 0, 1) := by decide +kernel
theorem dX4_bookInAll_6 : decode cX4_bookInAll 6 = .ok (.getfield 31, 3) := by decide +kernel
theorem dX4_bookInAll_9 : decode cX4_bookInAll 9 = .ok (.if_icmp .ge 19, 3) := by decide +kernel
theorem dX4_bookInAll_12 : decode cX4_bookInAll 12 = .ok (.lload_n 1, 1) := by decide +kernel
theorem dX4_bookInAll_13 : decode cX4_bookInAll 13 = .ok (.aload_n 0, 1) := by decide +kernel
theorem dX4_bookInAll_14 : decode cX4_bookInAll 14 = .ok (.getfield 15, 3) := by decide +kernel
theorem dX4_bookInAll_17 : decode cX4_bookInAll 17 = .ok (.iload_n 3, 1) := by decide +kernel
theorem dX4_bookInAll_18 : decode cX4_bookInAll 18 = .ok (.iaload, 1) := by decide +kernel
theorem dX4_bookInAll_19 : decode cX4_bookInAll 19 = .ok (.i2l, 1) := by decide +kernel
theorem dX4_bookInAll_20 : decode cX4_bookInAll 20 = .ok (.ladd, 1) := by decide +kernel
theorem dX4_bookInAll_21 : decode cX4_bookInAll 21 = .ok (.lstore_n 1, 1) := by decide +kernel
theorem dX4_bookInAll_22 : decode cX4_bookInAll 22 = .ok (.iinc 3 1, 3) := by decide +kernel
theorem dX4_bookInAll_25 : decode cX4_bookInAll 25 = .ok (.goto (-21), 3) := by decide +kernel
theorem dX4_bookInAll_28 : decode cX4_bookInAll 28 = .ok (.lload_n 1, 1) := by decide +kernel
theorem dX4_bookInAll_29 : decode cX4_bookInAll 29 = .ok (.lreturn, 1) := by decide +kernel
theorem dX4_unmeasuredBook_0 : decode cX4_unmeasuredBook 0 = .ok (.lconst 0, 1) := by decide +kernel
theorem dX4_unmeasuredBook_1 : decode cX4_unmeasuredBook 1 = .ok (.lstore_n 1, 1) := by decide +kernel
theorem dX4_unmeasuredBook_2 : decode cX4_unmeasuredBook 2 = .ok (.iconst 0, 1) := by decide +kernel
theorem dX4_unmeasuredBook_3 : decode cX4_unmeasuredBook 3 = .ok (.istore_n 3, 1) := by decide +kernel
theorem dX4_unmeasuredBook_4 : decode cX4_unmeasuredBook 4 = .ok (.iload_n 3, 1) := by decide +kernel
theorem dX4_unmeasuredBook_5 : decode cX4_unmeasuredBook 5 = .ok (.aload_n 0, 1) := by decide +kernel
theorem dX4_unmeasuredBook_6 : decode cX4_unmeasuredBook 6 = .ok (.getfield 31, 3) := by decide +kernel
theorem dX4_unmeasuredBook_9 : decode cX4_unmeasuredBook 9 = .ok (.if_icmp .ge 28, 3) := by decide +kernel
theorem dX4_unmeasuredBook_12 : decode cX4_unmeasuredBook 12 = .ok (.aload_n 0, 1) := by decide +kernel
theorem dX4_unmeasuredBook_13 : decode cX4_unmeasuredBook 13 = .ok (.getfield 21, 3) := by decide +kernel
theorem dX4_unmeasuredBook_16 : decode cX4_unmeasuredBook 16 = .ok (.iload_n 3, 1) := by decide +kernel
theorem dX4_unmeasuredBook_17 : decode cX4_unmeasuredBook 17 = .ok (.iaload, 1) := by decide +kernel
theorem dX4_unmeasuredBook_18 : decode cX4_unmeasuredBook 18 = .ok (.ifCond .ne 13, 3) := by decide +kernel
theorem dX4_unmeasuredBook_21 : decode cX4_unmeasuredBook 21 = .ok (.lload_n 1, 1) := by decide +kernel
theorem dX4_unmeasuredBook_22 : decode cX4_unmeasuredBook 22 = .ok (.aload_n 0, 1) := by decide +kernel
theorem dX4_unmeasuredBook_23 : decode cX4_unmeasuredBook 23 = .ok (.getfield 15, 3) := by decide +kernel
theorem dX4_unmeasuredBook_26 : decode cX4_unmeasuredBook 26 = .ok (.iload_n 3, 1) := by decide +kernel
theorem dX4_unmeasuredBook_27 : decode cX4_unmeasuredBook 27 = .ok (.iaload, 1) := by decide +kernel
theorem dX4_unmeasuredBook_28 : decode cX4_unmeasuredBook 28 = .ok (.i2l, 1) := by decide +kernel
theorem dX4_unmeasuredBook_29 : decode cX4_unmeasuredBook 29 = .ok (.ladd, 1) := by decide +kernel
theorem dX4_unmeasuredBook_30 : decode cX4_unmeasuredBook 30 = .ok (.lstore_n 1, 1) := by decide +kernel
theorem dX4_unmeasuredBook_31 : decode cX4_unmeasuredBook 31 = .ok (.iinc 3 1, 3) := by decide +kernel
theorem dX4_unmeasuredBook_34 : decode cX4_unmeasuredBook 34 = .ok (.goto (-30), 3) := by decide +kernel
theorem dX4_unmeasuredBook_37 : decode cX4_unmeasuredBook 37 = .ok (.lload_n 1, 1) := by decide +kernel
theorem dX4_unmeasuredBook_38 : decode cX4_unmeasuredBook 38 = .ok (.lreturn, 1) := by decide +kernel
theorem dX4_put_0 : decode cX4_put 0 = .ok (.iload_n 1, 1) := by decide +kernel
theorem dX4_put_1 : decode cX4_put 1 = .ok (.ifCond .gt 4, 3) := by decide +kernel
theorem dX4_put_4 : decode cX4_put 4 = .ok (.return_, 1) := by decide +kernel
theorem dX4_put_5 : decode cX4_put 5 = .ok (.aload_n 0, 1) := by decide +kernel
theorem dX4_put_6 : decode cX4_put 6 = .ok (.getfield 31, 3) := by decide +kernel
theorem dX4_put_9 : decode cX4_put 9 = .ok (.ifCond .eq 27, 3) := by decide +kernel
theorem dX4_put_12 : decode cX4_put 12 = .ok (.aload_n 0, 1) := by decide +kernel
theorem dX4_put_13 : decode cX4_put 13 = .ok (.getfield 31, 3) := by decide +kernel
theorem dX4_put_16 : decode cX4_put 16 = .ok (.bipush 40, 2) := by decide +kernel
theorem dX4_put_18 : decode cX4_put 18 = .ok (.if_icmp .ge 58, 3) := by decide +kernel
theorem dX4_put_21 : decode cX4_put 21 = .ok (.aload_n 0, 1) := by decide +kernel
theorem dX4_put_22 : decode cX4_put 22 = .ok (.getfield 11, 3) := by decide +kernel
theorem dX4_put_25 : decode cX4_put 25 = .ok (.aload_n 0, 1) := by decide +kernel
theorem dX4_put_26 : decode cX4_put 26 = .ok (.getfield 31, 3) := by decide +kernel
theorem dX4_put_29 : decode cX4_put 29 = .ok (.iconst 1, 1) := by decide +kernel
theorem dX4_put_30 : decode cX4_put 30 = .ok (.isub, 1) := by decide +kernel
theorem dX4_put_31 : decode cX4_put 31 = .ok (.iaload, 1) := by decide +kernel
theorem dX4_put_32 : decode cX4_put 32 = .ok (.iload_n 2, 1) := by decide +kernel
theorem dX4_put_33 : decode cX4_put 33 = .ok (.if_icmp .eq 43, 3) := by decide +kernel
theorem dX4_put_36 : decode cX4_put 36 = .ok (.aload_n 0, 1) := by decide +kernel
theorem dX4_put_37 : decode cX4_put 37 = .ok (.getfield 11, 3) := by decide +kernel
theorem dX4_put_40 : decode cX4_put 40 = .ok (.aload_n 0, 1) := by decide +kernel
theorem dX4_put_41 : decode cX4_put 41 = .ok (.getfield 31, 3) := by decide +kernel
theorem dX4_put_44 : decode cX4_put 44 = .ok (.iload_n 2, 1) := by decide +kernel
theorem dX4_put_45 : decode cX4_put 45 = .ok (.iastore, 1) := by decide +kernel
theorem dX4_put_46 : decode cX4_put 46 = .ok (.aload_n 0, 1) := by decide +kernel
theorem dX4_put_47 : decode cX4_put 47 = .ok (.getfield 15, 3) := by decide +kernel
theorem dX4_put_50 : decode cX4_put 50 = .ok (.aload_n 0, 1) := by decide +kernel
theorem dX4_put_51 : decode cX4_put 51 = .ok (.getfield 31, 3) := by decide +kernel
theorem dX4_put_54 : decode cX4_put 54 = .ok (.iconst 0, 1) := by decide +kernel
theorem dX4_put_55 : decode cX4_put 55 = .ok (.iastore, 1) := by decide +kernel
theorem dX4_put_56 : decode cX4_put 56 = .ok (.aload_n 0, 1) := by decide +kernel
theorem dX4_put_57 : decode cX4_put 57 = .ok (.getfield 18, 3) := by decide +kernel
theorem dX4_put_60 : decode cX4_put 60 = .ok (.aload_n 0, 1) := by decide +kernel
theorem dX4_put_61 : decode cX4_put 61 = .ok (.getfield 31, 3) := by decide +kernel
theorem dX4_put_64 : decode cX4_put 64 = .ok (.iconst 0, 1) := by decide +kernel
theorem dX4_put_65 : decode cX4_put 65 = .ok (.iastore, 1) := by decide +kernel
theorem dX4_put_66 : decode cX4_put 66 = .ok (.aload_n 0, 1) := by decide +kernel
theorem dX4_put_67 : decode cX4_put 67 = .ok (.dup, 1) := by decide +kernel
theorem dX4_put_68 : decode cX4_put 68 = .ok (.getfield 31, 3) := by decide +kernel
theorem dX4_put_71 : decode cX4_put 71 = .ok (.iconst 1, 1) := by decide +kernel
theorem dX4_put_72 : decode cX4_put 72 = .ok (.iadd, 1) := by decide +kernel
theorem dX4_put_73 : decode cX4_put 73 = .ok (.putfield 31, 3) := by decide +kernel
theorem dX4_put_76 : decode cX4_put 76 = .ok (.aload_n 0, 1) := by decide +kernel
theorem dX4_put_77 : decode cX4_put 77 = .ok (.getfield 31, 3) := by decide +kernel
theorem dX4_put_80 : decode cX4_put 80 = .ok (.iconst 1, 1) := by decide +kernel
theorem dX4_put_81 : decode cX4_put 81 = .ok (.isub, 1) := by decide +kernel
theorem dX4_put_82 : decode cX4_put 82 = .ok (.istore_n 3, 1) := by decide +kernel
theorem dX4_put_83 : decode cX4_put 83 = .ok (.aload_n 0, 1) := by decide +kernel
theorem dX4_put_84 : decode cX4_put 84 = .ok (.getfield 15, 3) := by decide +kernel
theorem dX4_put_87 : decode cX4_put 87 = .ok (.iload_n 3, 1) := by decide +kernel
theorem dX4_put_88 : decode cX4_put 88 = .ok (.dup2, 1) := by decide +kernel
theorem dX4_put_89 : decode cX4_put 89 = .ok (.iaload, 1) := by decide +kernel
theorem dX4_put_90 : decode cX4_put 90 = .ok (.iload_n 1, 1) := by decide +kernel
theorem dX4_put_91 : decode cX4_put 91 = .ok (.iadd, 1) := by decide +kernel
theorem dX4_put_92 : decode cX4_put 92 = .ok (.iastore, 1) := by decide +kernel
theorem dX4_put_93 : decode cX4_put 93 = .ok (.aload_n 0, 1) := by decide +kernel
theorem dX4_put_94 : decode cX4_put 94 = .ok (.getfield 18, 3) := by decide +kernel
theorem dX4_put_97 : decode cX4_put 97 = .ok (.iload_n 3, 1) := by decide +kernel
theorem dX4_put_98 : decode cX4_put 98 = .ok (.dup2, 1) := by decide +kernel
theorem dX4_put_99 : decode cX4_put 99 = .ok (.iaload, 1) := by decide +kernel
theorem dX4_put_100 : decode cX4_put 100 = .ok (.iload_n 1, 1) := by decide +kernel
theorem dX4_put_101 : decode cX4_put 101 = .ok (.iadd, 1) := by decide +kernel
theorem dX4_put_102 : decode cX4_put 102 = .ok (.iastore, 1) := by decide +kernel
theorem dX4_put_103 : decode cX4_put 103 = .ok (.aload_n 0, 1) := by decide +kernel
theorem dX4_put_104 : decode cX4_put 104 = .ok (.getfield 21, 3) := by decide +kernel
theorem dX4_put_107 : decode cX4_put 107 = .ok (.iload_n 3, 1) := by decide +kernel
theorem dX4_put_108 : decode cX4_put 108 = .ok (.iconst 0, 1) := by decide +kernel
theorem dX4_put_109 : decode cX4_put 109 = .ok (.iastore, 1) := by decide +kernel
theorem dX4_put_110 : decode cX4_put 110 = .ok (.aload_n 0, 1) := by decide +kernel
theorem dX4_put_111 : decode cX4_put 111 = .ok (.dup, 1) := by decide +kernel
theorem dX4_put_112 : decode cX4_put 112 = .ok (.getfield 28, 3) := by decide +kernel
theorem dX4_put_115 : decode cX4_put 115 = .ok (.iload_n 1, 1) := by decide +kernel
theorem dX4_put_116 : decode cX4_put 116 = .ok (.iadd, 1) := by decide +kernel
theorem dX4_put_117 : decode cX4_put 117 = .ok (.putfield 28, 3) := by decide +kernel
theorem dX4_put_120 : decode cX4_put 120 = .ok (.return_, 1) := by decide +kernel
theorem dX4_take_0 : decode cX4_take 0 = .ok (.iload_n 1, 1) := by decide +kernel
theorem dX4_take_1 : decode cX4_take 1 = .ok (.istore_n 2, 1) := by decide +kernel
theorem dX4_take_2 : decode cX4_take 2 = .ok (.iconst 0, 1) := by decide +kernel
theorem dX4_take_3 : decode cX4_take 3 = .ok (.istore_n 3, 1) := by decide +kernel
theorem dX4_take_4 : decode cX4_take 4 = .ok (.iconst 0, 1) := by decide +kernel
theorem dX4_take_5 : decode cX4_take 5 = .ok (.istore 4, 2) := by decide +kernel
theorem dX4_take_7 : decode cX4_take 7 = .ok (.iload 4, 2) := by decide +kernel
theorem dX4_take_9 : decode cX4_take 9 = .ok (.aload_n 0, 1) := by decide +kernel
theorem dX4_take_10 : decode cX4_take 10 = .ok (.getfield 31, 3) := by decide +kernel
theorem dX4_take_13 : decode cX4_take 13 = .ok (.if_icmp .ge 69, 3) := by decide +kernel
theorem dX4_take_16 : decode cX4_take 16 = .ok (.iload_n 2, 1) := by decide +kernel
theorem dX4_take_17 : decode cX4_take 17 = .ok (.ifCond .le 65, 3) := by decide +kernel
theorem dX4_take_20 : decode cX4_take 20 = .ok (.iload_n 2, 1) := by decide +kernel
theorem dX4_take_21 : decode cX4_take 21 = .ok (.aload_n 0, 1) := by decide +kernel
theorem dX4_take_22 : decode cX4_take 22 = .ok (.getfield 18, 3) := by decide +kernel
theorem dX4_take_25 : decode cX4_take 25 = .ok (.iload 4, 2) := by decide +kernel
theorem dX4_take_27 : decode cX4_take 27 = .ok (.iaload, 1) := by decide +kernel
theorem dX4_take_28 : decode cX4_take 28 = .ok (.invokestatic 42, 3) := by decide +kernel
theorem dX4_take_31 : decode cX4_take 31 = .ok (.istore 5, 2) := by decide +kernel
theorem dX4_take_33 : decode cX4_take 33 = .ok (.aload_n 0, 1) := by decide +kernel
theorem dX4_take_34 : decode cX4_take 34 = .ok (.iload 4, 2) := by decide +kernel
theorem dX4_take_36 : decode cX4_take 36 = .ok (.iload 5, 2) := by decide +kernel
theorem dX4_take_38 : decode cX4_take 38 = .ok (.invokevirtual 48, 3) := by decide +kernel
theorem dX4_take_41 : decode cX4_take 41 = .ok (.iload_n 2, 1) := by decide +kernel
theorem dX4_take_42 : decode cX4_take 42 = .ok (.iload 5, 2) := by decide +kernel
theorem dX4_take_44 : decode cX4_take 44 = .ok (.isub, 1) := by decide +kernel
theorem dX4_take_45 : decode cX4_take 45 = .ok (.istore_n 2, 1) := by decide +kernel
theorem dX4_take_46 : decode cX4_take 46 = .ok (.aload_n 0, 1) := by decide +kernel
theorem dX4_take_47 : decode cX4_take 47 = .ok (.getfield 18, 3) := by decide +kernel
theorem dX4_take_50 : decode cX4_take 50 = .ok (.iload 4, 2) := by decide +kernel
theorem dX4_take_52 : decode cX4_take 52 = .ok (.iaload, 1) := by decide +kernel
theorem dX4_take_53 : decode cX4_take 53 = .ok (.ifCond .ne 23, 3) := by decide +kernel
theorem dX4_take_56 : decode cX4_take 56 = .ok (.aload_n 0, 1) := by decide +kernel
theorem dX4_take_57 : decode cX4_take 57 = .ok (.dup, 1) := by decide +kernel
theorem dX4_take_58 : decode cX4_take 58 = .ok (.getfield 34, 3) := by decide +kernel
theorem dX4_take_61 : decode cX4_take 61 = .ok (.aload_n 0, 1) := by decide +kernel
theorem dX4_take_62 : decode cX4_take 62 = .ok (.getfield 15, 3) := by decide +kernel
theorem dX4_take_65 : decode cX4_take 65 = .ok (.iload 4, 2) := by decide +kernel
theorem dX4_take_67 : decode cX4_take 67 = .ok (.iaload, 1) := by decide +kernel
theorem dX4_take_68 : decode cX4_take 68 = .ok (.i2l, 1) := by decide +kernel
theorem dX4_take_69 : decode cX4_take 69 = .ok (.ladd, 1) := by decide +kernel
theorem dX4_take_70 : decode cX4_take 70 = .ok (.putfield 34, 3) := by decide +kernel
theorem dX4_take_73 : decode cX4_take 73 = .ok (.iinc 3 1, 3) := by decide +kernel
theorem dX4_take_76 : decode cX4_take 76 = .ok (.iinc 4 1, 3) := by decide +kernel
theorem dX4_take_79 : decode cX4_take 79 = .ok (.goto (-72), 3) := by decide +kernel
theorem dX4_take_82 : decode cX4_take 82 = .ok (.aload_n 0, 1) := by decide +kernel
theorem dX4_take_83 : decode cX4_take 83 = .ok (.iconst 0, 1) := by decide +kernel
theorem dX4_take_84 : decode cX4_take 84 = .ok (.iload_n 3, 1) := by decide +kernel
theorem dX4_take_85 : decode cX4_take 85 = .ok (.invokevirtual 52, 3) := by decide +kernel
theorem dX4_take_88 : decode cX4_take 88 = .ok (.return_, 1) := by decide +kernel
theorem dX4_pilfer_0 : decode cX4_pilfer 0 = .ok (.iload_n 1, 1) := by decide +kernel
theorem dX4_pilfer_1 : decode cX4_pilfer 1 = .ok (.istore_n 2, 1) := by decide +kernel
theorem dX4_pilfer_2 : decode cX4_pilfer 2 = .ok (.iconst 0, 1) := by decide +kernel
theorem dX4_pilfer_3 : decode cX4_pilfer 3 = .ok (.istore_n 3, 1) := by decide +kernel
theorem dX4_pilfer_4 : decode cX4_pilfer 4 = .ok (.iload_n 3, 1) := by decide +kernel
theorem dX4_pilfer_5 : decode cX4_pilfer 5 = .ok (.aload_n 0, 1) := by decide +kernel
theorem dX4_pilfer_6 : decode cX4_pilfer 6 = .ok (.getfield 31, 3) := by decide +kernel
theorem dX4_pilfer_9 : decode cX4_pilfer 9 = .ok (.if_icmp .ge 64, 3) := by decide +kernel
theorem dX4_pilfer_12 : decode cX4_pilfer 12 = .ok (.iload_n 2, 1) := by decide +kernel
theorem dX4_pilfer_13 : decode cX4_pilfer 13 = .ok (.ifCond .le 60, 3) := by decide +kernel
theorem dX4_pilfer_16 : decode cX4_pilfer 16 = .ok (.iload_n 2, 1) := by decide +kernel
theorem dX4_pilfer_17 : decode cX4_pilfer 17 = .ok (.aload_n 0, 1) := by decide +kernel
theorem dX4_pilfer_18 : decode cX4_pilfer 18 = .ok (.getfield 18, 3) := by decide +kernel
theorem dX4_pilfer_21 : decode cX4_pilfer 21 = .ok (.iload_n 3, 1) := by decide +kernel
theorem dX4_pilfer_22 : decode cX4_pilfer 22 = .ok (.iaload, 1) := by decide +kernel
theorem dX4_pilfer_23 : decode cX4_pilfer 23 = .ok (.invokestatic 42, 3) := by decide +kernel
theorem dX4_pilfer_26 : decode cX4_pilfer 26 = .ok (.istore 4, 2) := by decide +kernel
theorem dX4_pilfer_28 : decode cX4_pilfer 28 = .ok (.iload 4, 2) := by decide +kernel
theorem dX4_pilfer_30 : decode cX4_pilfer 30 = .ok (.ifCond .le 37, 3) := by decide +kernel
theorem dX4_pilfer_33 : decode cX4_pilfer 33 = .ok (.aload_n 0, 1) := by decide +kernel
theorem dX4_pilfer_34 : decode cX4_pilfer 34 = .ok (.getfield 18, 3) := by decide +kernel
theorem dX4_pilfer_37 : decode cX4_pilfer 37 = .ok (.iload_n 3, 1) := by decide +kernel
theorem dX4_pilfer_38 : decode cX4_pilfer 38 = .ok (.dup2, 1) := by decide +kernel
theorem dX4_pilfer_39 : decode cX4_pilfer 39 = .ok (.iaload, 1) := by decide +kernel
theorem dX4_pilfer_40 : decode cX4_pilfer 40 = .ok (.iload 4, 2) := by decide +kernel
theorem dX4_pilfer_42 : decode cX4_pilfer 42 = .ok (.isub, 1) := by decide +kernel
theorem dX4_pilfer_43 : decode cX4_pilfer 43 = .ok (.iastore, 1) := by decide +kernel
theorem dX4_pilfer_44 : decode cX4_pilfer 44 = .ok (.aload_n 0, 1) := by decide +kernel
theorem dX4_pilfer_45 : decode cX4_pilfer 45 = .ok (.dup, 1) := by decide +kernel
theorem dX4_pilfer_46 : decode cX4_pilfer 46 = .ok (.getfield 28, 3) := by decide +kernel
theorem dX4_pilfer_49 : decode cX4_pilfer 49 = .ok (.iload 4, 2) := by decide +kernel
theorem dX4_pilfer_51 : decode cX4_pilfer 51 = .ok (.isub, 1) := by decide +kernel
theorem dX4_pilfer_52 : decode cX4_pilfer 52 = .ok (.putfield 28, 3) := by decide +kernel
theorem dX4_pilfer_55 : decode cX4_pilfer 55 = .ok (.iload_n 2, 1) := by decide +kernel
theorem dX4_pilfer_56 : decode cX4_pilfer 56 = .ok (.iload 4, 2) := by decide +kernel
theorem dX4_pilfer_58 : decode cX4_pilfer 58 = .ok (.isub, 1) := by decide +kernel
theorem dX4_pilfer_59 : decode cX4_pilfer 59 = .ok (.istore_n 2, 1) := by decide +kernel
theorem dX4_pilfer_60 : decode cX4_pilfer 60 = .ok (.aload_n 0, 1) := by decide +kernel
theorem dX4_pilfer_61 : decode cX4_pilfer 61 = .ok (.getfield 21, 3) := by decide +kernel
theorem dX4_pilfer_64 : decode cX4_pilfer 64 = .ok (.iload_n 3, 1) := by decide +kernel
theorem dX4_pilfer_65 : decode cX4_pilfer 65 = .ok (.iconst 0, 1) := by decide +kernel
theorem dX4_pilfer_66 : decode cX4_pilfer 66 = .ok (.iastore, 1) := by decide +kernel
theorem dX4_pilfer_67 : decode cX4_pilfer 67 = .ok (.iinc 3 1, 3) := by decide +kernel
theorem dX4_pilfer_70 : decode cX4_pilfer 70 = .ok (.goto (-66), 3) := by decide +kernel
theorem dX4_pilfer_73 : decode cX4_pilfer 73 = .ok (.return_, 1) := by decide +kernel
theorem dX4_audit_0 : decode cX4_audit 0 = .ok (.aload_n 0, 1) := by decide +kernel
theorem dX4_audit_1 : decode cX4_audit 1 = .ok (.iload_n 1, 1) := by decide +kernel
theorem dX4_audit_2 : decode cX4_audit 2 = .ok (.invokevirtual 38, 3) := by decide +kernel
theorem dX4_audit_5 : decode cX4_audit 5 = .ok (.ifCond .ne 5, 3) := by decide +kernel
theorem dX4_audit_8 : decode cX4_audit 8 = .ok (.iconst (-1), 1) := by decide +kernel
theorem dX4_audit_9 : decode cX4_audit 9 = .ok (.ireturn, 1) := by decide +kernel
theorem dX4_audit_10 : decode cX4_audit 10 = .ok (.aload_n 0, 1) := by decide +kernel
theorem dX4_audit_11 : decode cX4_audit 11 = .ok (.getfield 15, 3) := by decide +kernel
theorem dX4_audit_14 : decode cX4_audit 14 = .ok (.iload_n 1, 1) := by decide +kernel
theorem dX4_audit_15 : decode cX4_audit 15 = .ok (.iaload, 1) := by decide +kernel
theorem dX4_audit_16 : decode cX4_audit 16 = .ok (.aload_n 0, 1) := by decide +kernel
theorem dX4_audit_17 : decode cX4_audit 17 = .ok (.getfield 18, 3) := by decide +kernel
theorem dX4_audit_20 : decode cX4_audit 20 = .ok (.iload_n 1, 1) := by decide +kernel
theorem dX4_audit_21 : decode cX4_audit 21 = .ok (.iaload, 1) := by decide +kernel
theorem dX4_audit_22 : decode cX4_audit 22 = .ok (.isub, 1) := by decide +kernel
theorem dX4_audit_23 : decode cX4_audit 23 = .ok (.istore_n 2, 1) := by decide +kernel
theorem dX4_audit_24 : decode cX4_audit 24 = .ok (.aload_n 0, 1) := by decide +kernel
theorem dX4_audit_25 : decode cX4_audit 25 = .ok (.dup, 1) := by decide +kernel
theorem dX4_audit_26 : decode cX4_audit 26 = .ok (.getfield 34, 3) := by decide +kernel
theorem dX4_audit_29 : decode cX4_audit 29 = .ok (.iload_n 2, 1) := by decide +kernel
theorem dX4_audit_30 : decode cX4_audit 30 = .ok (.i2l, 1) := by decide +kernel
theorem dX4_audit_31 : decode cX4_audit 31 = .ok (.ladd, 1) := by decide +kernel
theorem dX4_audit_32 : decode cX4_audit 32 = .ok (.putfield 34, 3) := by decide +kernel
theorem dX4_audit_35 : decode cX4_audit 35 = .ok (.aload_n 0, 1) := by decide +kernel
theorem dX4_audit_36 : decode cX4_audit 36 = .ok (.getfield 15, 3) := by decide +kernel
theorem dX4_audit_39 : decode cX4_audit 39 = .ok (.iload_n 1, 1) := by decide +kernel
theorem dX4_audit_40 : decode cX4_audit 40 = .ok (.aload_n 0, 1) := by decide +kernel
theorem dX4_audit_41 : decode cX4_audit 41 = .ok (.getfield 18, 3) := by decide +kernel
theorem dX4_audit_44 : decode cX4_audit 44 = .ok (.iload_n 1, 1) := by decide +kernel
theorem dX4_audit_45 : decode cX4_audit 45 = .ok (.iaload, 1) := by decide +kernel
theorem dX4_audit_46 : decode cX4_audit 46 = .ok (.iastore, 1) := by decide +kernel
theorem dX4_audit_47 : decode cX4_audit 47 = .ok (.aload_n 0, 1) := by decide +kernel
theorem dX4_audit_48 : decode cX4_audit 48 = .ok (.getfield 21, 3) := by decide +kernel
theorem dX4_audit_51 : decode cX4_audit 51 = .ok (.iload_n 1, 1) := by decide +kernel
theorem dX4_audit_52 : decode cX4_audit 52 = .ok (.iconst 1, 1) := by decide +kernel
theorem dX4_audit_53 : decode cX4_audit 53 = .ok (.iastore, 1) := by decide +kernel
theorem dX4_audit_54 : decode cX4_audit 54 = .ok (.aload_n 0, 1) := by decide +kernel
theorem dX4_audit_55 : decode cX4_audit 55 = .ok (.getfield 18, 3) := by decide +kernel
theorem dX4_audit_58 : decode cX4_audit 58 = .ok (.iload_n 1, 1) := by decide +kernel
theorem dX4_audit_59 : decode cX4_audit 59 = .ok (.iaload, 1) := by decide +kernel
theorem dX4_audit_60 : decode cX4_audit 60 = .ok (.ifCond .ne 9, 3) := by decide +kernel
theorem dX4_audit_63 : decode cX4_audit 63 = .ok (.aload_n 0, 1) := by decide +kernel
theorem dX4_audit_64 : decode cX4_audit 64 = .ok (.iload_n 1, 1) := by decide +kernel
theorem dX4_audit_65 : decode cX4_audit 65 = .ok (.iconst 1, 1) := by decide +kernel
theorem dX4_audit_66 : decode cX4_audit 66 = .ok (.invokevirtual 52, 3) := by decide +kernel
theorem dX4_audit_69 : decode cX4_audit 69 = .ok (.iload_n 2, 1) := by decide +kernel
theorem dX4_audit_70 : decode cX4_audit 70 = .ok (.ireturn, 1) := by decide +kernel
theorem dX4_spoil_0 : decode cX4_spoil 0 = .ok (.iconst 0, 1) := by decide +kernel
theorem dX4_spoil_1 : decode cX4_spoil 1 = .ok (.istore_n 3, 1) := by decide +kernel
theorem dX4_spoil_2 : decode cX4_spoil 2 = .ok (.iload_n 3, 1) := by decide +kernel
theorem dX4_spoil_3 : decode cX4_spoil 3 = .ok (.aload_n 0, 1) := by decide +kernel
theorem dX4_spoil_4 : decode cX4_spoil 4 = .ok (.getfield 31, 3) := by decide +kernel
theorem dX4_spoil_7 : decode cX4_spoil 7 = .ok (.if_icmp .ge 19, 3) := by decide +kernel
theorem dX4_spoil_10 : decode cX4_spoil 10 = .ok (.aload_n 0, 1) := by decide +kernel
theorem dX4_spoil_11 : decode cX4_spoil 11 = .ok (.getfield 11, 3) := by decide +kernel
theorem dX4_spoil_14 : decode cX4_spoil 14 = .ok (.iload_n 3, 1) := by decide +kernel
theorem dX4_spoil_15 : decode cX4_spoil 15 = .ok (.iaload, 1) := by decide +kernel
theorem dX4_spoil_16 : decode cX4_spoil 16 = .ok (.iload_n 1, 1) := by decide +kernel
theorem dX4_spoil_17 : decode cX4_spoil 17 = .ok (.if_icmp .gt 9, 3) := by decide +kernel
theorem dX4_spoil_20 : decode cX4_spoil 20 = .ok (.iinc 3 1, 3) := by decide +kernel
theorem dX4_spoil_23 : decode cX4_spoil 23 = .ok (.goto (-21), 3) := by decide +kernel
theorem dX4_spoil_26 : decode cX4_spoil 26 = .ok (.lconst 0, 1) := by decide +kernel
theorem dX4_spoil_27 : decode cX4_spoil 27 = .ok (.lstore 4, 2) := by decide +kernel
theorem dX4_spoil_29 : decode cX4_spoil 29 = .ok (.iload_n 3, 1) := by decide +kernel
theorem dX4_spoil_30 : decode cX4_spoil 30 = .ok (.iconst 1, 1) := by decide +kernel
theorem dX4_spoil_31 : decode cX4_spoil 31 = .ok (.isub, 1) := by decide +kernel
theorem dX4_spoil_32 : decode cX4_spoil 32 = .ok (.istore 6, 2) := by decide +kernel
theorem dX4_spoil_34 : decode cX4_spoil 34 = .ok (.iload 6, 2) := by decide +kernel
theorem dX4_spoil_36 : decode cX4_spoil 36 = .ok (.ifCond .lt 76, 3) := by decide +kernel
theorem dX4_spoil_39 : decode cX4_spoil 39 = .ok (.aload_n 0, 1) := by decide +kernel
theorem dX4_spoil_40 : decode cX4_spoil 40 = .ok (.getfield 18, 3) := by decide +kernel
theorem dX4_spoil_43 : decode cX4_spoil 43 = .ok (.iload 6, 2) := by decide +kernel
theorem dX4_spoil_45 : decode cX4_spoil 45 = .ok (.iaload, 1) := by decide +kernel
theorem dX4_spoil_46 : decode cX4_spoil 46 = .ok (.iload_n 2, 1) := by decide +kernel
theorem dX4_spoil_47 : decode cX4_spoil 47 = .ok (.imul, 1) := by decide +kernel
theorem dX4_spoil_48 : decode cX4_spoil 48 = .ok (.bipush 99, 2) := by decide +kernel
theorem dX4_spoil_50 : decode cX4_spoil 50 = .ok (.iadd, 1) := by decide +kernel
theorem dX4_spoil_51 : decode cX4_spoil 51 = .ok (.bipush 100, 2) := by decide +kernel
theorem dX4_spoil_53 : decode cX4_spoil 53 = .ok (.idiv, 1) := by decide +kernel
theorem dX4_spoil_54 : decode cX4_spoil 54 = .ok (.istore 7, 2) := by decide +kernel
theorem dX4_spoil_56 : decode cX4_spoil 56 = .ok (.aload_n 0, 1) := by decide +kernel
theorem dX4_spoil_57 : decode cX4_spoil 57 = .ok (.iload 6, 2) := by decide +kernel
theorem dX4_spoil_59 : decode cX4_spoil 59 = .ok (.iload 7, 2) := by decide +kernel
theorem dX4_spoil_61 : decode cX4_spoil 61 = .ok (.invokevirtual 48, 3) := by decide +kernel
theorem dX4_spoil_64 : decode cX4_spoil 64 = .ok (.lload 4, 2) := by decide +kernel
theorem dX4_spoil_66 : decode cX4_spoil 66 = .ok (.iload 7, 2) := by decide +kernel
theorem dX4_spoil_68 : decode cX4_spoil 68 = .ok (.i2l, 1) := by decide +kernel
theorem dX4_spoil_69 : decode cX4_spoil 69 = .ok (.ladd, 1) := by decide +kernel
theorem dX4_spoil_70 : decode cX4_spoil 70 = .ok (.lstore 4, 2) := by decide +kernel
theorem dX4_spoil_72 : decode cX4_spoil 72 = .ok (.aload_n 0, 1) := by decide +kernel
theorem dX4_spoil_73 : decode cX4_spoil 73 = .ok (.getfield 18, 3) := by decide +kernel
theorem dX4_spoil_76 : decode cX4_spoil 76 = .ok (.iload 6, 2) := by decide +kernel
theorem dX4_spoil_78 : decode cX4_spoil 78 = .ok (.iaload, 1) := by decide +kernel
theorem dX4_spoil_79 : decode cX4_spoil 79 = .ok (.ifCond .ne 27, 3) := by decide +kernel
theorem dX4_spoil_82 : decode cX4_spoil 82 = .ok (.aload_n 0, 1) := by decide +kernel
theorem dX4_spoil_83 : decode cX4_spoil 83 = .ok (.dup, 1) := by decide +kernel
theorem dX4_spoil_84 : decode cX4_spoil 84 = .ok (.getfield 34, 3) := by decide +kernel
theorem dX4_spoil_87 : decode cX4_spoil 87 = .ok (.aload_n 0, 1) := by decide +kernel
theorem dX4_spoil_88 : decode cX4_spoil 88 = .ok (.getfield 15, 3) := by decide +kernel
theorem dX4_spoil_91 : decode cX4_spoil 91 = .ok (.iload 6, 2) := by decide +kernel
theorem dX4_spoil_93 : decode cX4_spoil 93 = .ok (.iaload, 1) := by decide +kernel
theorem dX4_spoil_94 : decode cX4_spoil 94 = .ok (.i2l, 1) := by decide +kernel
theorem dX4_spoil_95 : decode cX4_spoil 95 = .ok (.ladd, 1) := by decide +kernel
theorem dX4_spoil_96 : decode cX4_spoil 96 = .ok (.putfield 34, 3) := by decide +kernel
theorem dX4_spoil_99 : decode cX4_spoil 99 = .ok (.aload_n 0, 1) := by decide +kernel
theorem dX4_spoil_100 : decode cX4_spoil 100 = .ok (.iload 6, 2) := by decide +kernel
theorem dX4_spoil_102 : decode cX4_spoil 102 = .ok (.iconst 1, 1) := by decide +kernel
theorem dX4_spoil_103 : decode cX4_spoil 103 = .ok (.invokevirtual 52, 3) := by decide +kernel
theorem dX4_spoil_106 : decode cX4_spoil 106 = .ok (.iinc 6 (-1), 3) := by decide +kernel
theorem dX4_spoil_109 : decode cX4_spoil 109 = .ok (.goto (-75), 3) := by decide +kernel
theorem dX4_spoil_112 : decode cX4_spoil 112 = .ok (.lload 4, 2) := by decide +kernel
theorem dX4_spoil_114 : decode cX4_spoil 114 = .ok (.lreturn, 1) := by decide +kernel
theorem dX4_imitate_0 : decode cX4_imitate 0 = .ok (.aload_n 0, 1) := by decide +kernel
theorem dX4_imitate_1 : decode cX4_imitate 1 = .ok (.aload_n 1, 1) := by decide +kernel
theorem dX4_imitate_2 : decode cX4_imitate 2 = .ok (.getfield 31, 3) := by decide +kernel
theorem dX4_imitate_5 : decode cX4_imitate 5 = .ok (.putfield 31, 3) := by decide +kernel
theorem dX4_imitate_8 : decode cX4_imitate 8 = .ok (.aload_n 0, 1) := by decide +kernel
theorem dX4_imitate_9 : decode cX4_imitate 9 = .ok (.aload_n 1, 1) := by decide +kernel
theorem dX4_imitate_10 : decode cX4_imitate 10 = .ok (.getfield 24, 3) := by decide +kernel
theorem dX4_imitate_13 : decode cX4_imitate 13 = .ok (.putfield 24, 3) := by decide +kernel
theorem dX4_imitate_16 : decode cX4_imitate 16 = .ok (.aload_n 0, 1) := by decide +kernel
theorem dX4_imitate_17 : decode cX4_imitate 17 = .ok (.aload_n 1, 1) := by decide +kernel
theorem dX4_imitate_18 : decode cX4_imitate 18 = .ok (.getfield 28, 3) := by decide +kernel
theorem dX4_imitate_21 : decode cX4_imitate 21 = .ok (.putfield 28, 3) := by decide +kernel
theorem dX4_imitate_24 : decode cX4_imitate 24 = .ok (.aload_n 0, 1) := by decide +kernel
theorem dX4_imitate_25 : decode cX4_imitate 25 = .ok (.aload_n 1, 1) := by decide +kernel
theorem dX4_imitate_26 : decode cX4_imitate 26 = .ok (.getfield 34, 3) := by decide +kernel
theorem dX4_imitate_29 : decode cX4_imitate 29 = .ok (.putfield 34, 3) := by decide +kernel
theorem dX4_imitate_32 : decode cX4_imitate 32 = .ok (.aload_n 1, 1) := by decide +kernel
theorem dX4_imitate_33 : decode cX4_imitate 33 = .ok (.getfield 11, 3) := by decide +kernel
theorem dX4_imitate_36 : decode cX4_imitate 36 = .ok (.iconst 0, 1) := by decide +kernel
theorem dX4_imitate_37 : decode cX4_imitate 37 = .ok (.aload_n 0, 1) := by decide +kernel
theorem dX4_imitate_38 : decode cX4_imitate 38 = .ok (.getfield 11, 3) := by decide +kernel
theorem dX4_imitate_41 : decode cX4_imitate 41 = .ok (.iconst 0, 1) := by decide +kernel
theorem dX4_imitate_42 : decode cX4_imitate 42 = .ok (.aload_n 0, 1) := by decide +kernel
theorem dX4_imitate_43 : decode cX4_imitate 43 = .ok (.getfield 31, 3) := by decide +kernel
theorem dX4_imitate_46 : decode cX4_imitate 46 = .ok (.invokestatic 55, 3) := by decide +kernel
theorem dX4_imitate_49 : decode cX4_imitate 49 = .ok (.aload_n 1, 1) := by decide +kernel
theorem dX4_imitate_50 : decode cX4_imitate 50 = .ok (.getfield 15, 3) := by decide +kernel
theorem dX4_imitate_53 : decode cX4_imitate 53 = .ok (.iconst 0, 1) := by decide +kernel
theorem dX4_imitate_54 : decode cX4_imitate 54 = .ok (.aload_n 0, 1) := by decide +kernel
theorem dX4_imitate_55 : decode cX4_imitate 55 = .ok (.getfield 15, 3) := by decide +kernel
theorem dX4_imitate_58 : decode cX4_imitate 58 = .ok (.iconst 0, 1) := by decide +kernel
theorem dX4_imitate_59 : decode cX4_imitate 59 = .ok (.aload_n 0, 1) := by decide +kernel
theorem dX4_imitate_60 : decode cX4_imitate 60 = .ok (.getfield 31, 3) := by decide +kernel
theorem dX4_imitate_63 : decode cX4_imitate 63 = .ok (.invokestatic 55, 3) := by decide +kernel
theorem dX4_imitate_66 : decode cX4_imitate 66 = .ok (.aload_n 1, 1) := by decide +kernel
theorem dX4_imitate_67 : decode cX4_imitate 67 = .ok (.getfield 18, 3) := by decide +kernel
theorem dX4_imitate_70 : decode cX4_imitate 70 = .ok (.iconst 0, 1) := by decide +kernel
theorem dX4_imitate_71 : decode cX4_imitate 71 = .ok (.aload_n 0, 1) := by decide +kernel
theorem dX4_imitate_72 : decode cX4_imitate 72 = .ok (.getfield 18, 3) := by decide +kernel
theorem dX4_imitate_75 : decode cX4_imitate 75 = .ok (.iconst 0, 1) := by decide +kernel
theorem dX4_imitate_76 : decode cX4_imitate 76 = .ok (.aload_n 0, 1) := by decide +kernel
theorem dX4_imitate_77 : decode cX4_imitate 77 = .ok (.getfield 31, 3) := by decide +kernel
theorem dX4_imitate_80 : decode cX4_imitate 80 = .ok (.invokestatic 55, 3) := by decide +kernel
theorem dX4_imitate_83 : decode cX4_imitate 83 = .ok (.aload_n 1, 1) := by decide +kernel
theorem dX4_imitate_84 : decode cX4_imitate 84 = .ok (.getfield 21, 3) := by decide +kernel
theorem dX4_imitate_87 : decode cX4_imitate 87 = .ok (.iconst 0, 1) := by decide +kernel
theorem dX4_imitate_88 : decode cX4_imitate 88 = .ok (.aload_n 0, 1) := by decide +kernel
theorem dX4_imitate_89 : decode cX4_imitate 89 = .ok (.getfield 21, 3) := by decide +kernel
theorem dX4_imitate_92 : decode cX4_imitate 92 = .ok (.iconst 0, 1) := by decide +kernel
theorem dX4_imitate_93 : decode cX4_imitate 93 = .ok (.aload_n 0, 1) := by decide +kernel
theorem dX4_imitate_94 : decode cX4_imitate 94 = .ok (.getfield 31, 3) := by decide +kernel
theorem dX4_imitate_97 : decode cX4_imitate 97 = .ok (.invokestatic 55, 3) := by decide +kernel
theorem dX4_imitate_100 : decode cX4_imitate 100 = .ok (.return_, 1) := by decide +kernel
theorem dX4_lessen_0 : decode cX4_lessen 0 = .ok (.aload_n 0, 1) := by decide +kernel
theorem dX4_lessen_1 : decode cX4_lessen 1 = .ok (.iload_n 1, 1) := by decide +kernel
theorem dX4_lessen_2 : decode cX4_lessen 2 = .ok (.invokevirtual 38, 3) := by decide +kernel
theorem dX4_lessen_5 : decode cX4_lessen 5 = .ok (.ifCond .eq 33, 3) := by decide +kernel
theorem dX4_lessen_8 : decode cX4_lessen 8 = .ok (.aload_n 0, 1) := by decide +kernel
theorem dX4_lessen_9 : decode cX4_lessen 9 = .ok (.getfield 15, 3) := by decide +kernel
theorem dX4_lessen_12 : decode cX4_lessen 12 = .ok (.iload_n 1, 1) := by decide +kernel
theorem dX4_lessen_13 : decode cX4_lessen 13 = .ok (.dup2, 1) := by decide +kernel
theorem dX4_lessen_14 : decode cX4_lessen 14 = .ok (.iaload, 1) := by decide +kernel
theorem dX4_lessen_15 : decode cX4_lessen 15 = .ok (.iload_n 2, 1) := by decide +kernel
theorem dX4_lessen_16 : decode cX4_lessen 16 = .ok (.isub, 1) := by decide +kernel
theorem dX4_lessen_17 : decode cX4_lessen 17 = .ok (.iastore, 1) := by decide +kernel
theorem dX4_lessen_18 : decode cX4_lessen 18 = .ok (.aload_n 0, 1) := by decide +kernel
theorem dX4_lessen_19 : decode cX4_lessen 19 = .ok (.getfield 18, 3) := by decide +kernel
theorem dX4_lessen_22 : decode cX4_lessen 22 = .ok (.iload_n 1, 1) := by decide +kernel
theorem dX4_lessen_23 : decode cX4_lessen 23 = .ok (.dup2, 1) := by decide +kernel
theorem dX4_lessen_24 : decode cX4_lessen 24 = .ok (.iaload, 1) := by decide +kernel
theorem dX4_lessen_25 : decode cX4_lessen 25 = .ok (.iload_n 2, 1) := by decide +kernel
theorem dX4_lessen_26 : decode cX4_lessen 26 = .ok (.isub, 1) := by decide +kernel
theorem dX4_lessen_27 : decode cX4_lessen 27 = .ok (.iastore, 1) := by decide +kernel
theorem dX4_lessen_28 : decode cX4_lessen 28 = .ok (.aload_n 0, 1) := by decide +kernel
theorem dX4_lessen_29 : decode cX4_lessen 29 = .ok (.dup, 1) := by decide +kernel
theorem dX4_lessen_30 : decode cX4_lessen 30 = .ok (.getfield 28, 3) := by decide +kernel
theorem dX4_lessen_33 : decode cX4_lessen 33 = .ok (.iload_n 2, 1) := by decide +kernel
theorem dX4_lessen_34 : decode cX4_lessen 34 = .ok (.isub, 1) := by decide +kernel
theorem dX4_lessen_35 : decode cX4_lessen 35 = .ok (.putfield 28, 3) := by decide +kernel
theorem dX4_lessen_38 : decode cX4_lessen 38 = .ok (.return_, 1) := by decide +kernel
theorem dX4_cut_0 : decode cX4_cut 0 = .ok (.aload_n 0, 1) := by decide +kernel
theorem dX4_cut_1 : decode cX4_cut 1 = .ok (.getfield 31, 3) := by decide +kernel
theorem dX4_cut_4 : decode cX4_cut 4 = .ok (.iload_n 1, 1) := by decide +kernel
theorem dX4_cut_5 : decode cX4_cut 5 = .ok (.isub, 1) := by decide +kernel
theorem dX4_cut_6 : decode cX4_cut 6 = .ok (.iload_n 2, 1) := by decide +kernel
theorem dX4_cut_7 : decode cX4_cut 7 = .ok (.isub, 1) := by decide +kernel
theorem dX4_cut_8 : decode cX4_cut 8 = .ok (.istore_n 3, 1) := by decide +kernel
theorem dX4_cut_9 : decode cX4_cut 9 = .ok (.iload_n 1, 1) := by decide +kernel
theorem dX4_cut_10 : decode cX4_cut 10 = .ok (.ifCond .lt 11, 3) := by decide +kernel
theorem dX4_cut_13 : decode cX4_cut 13 = .ok (.iload_n 2, 1) := by decide +kernel
theorem dX4_cut_14 : decode cX4_cut 14 = .ok (.ifCond .le 7, 3) := by decide +kernel
theorem dX4_cut_17 : decode cX4_cut 17 = .ok (.iload_n 3, 1) := by decide +kernel
theorem dX4_cut_18 : decode cX4_cut 18 = .ok (.ifCond .ge 4, 3) := by decide +kernel
theorem dX4_cut_21 : decode cX4_cut 21 = .ok (.return_, 1) := by decide +kernel
theorem dX4_cut_22 : decode cX4_cut 22 = .ok (.aload_n 0, 1) := by decide +kernel
theorem dX4_cut_23 : decode cX4_cut 23 = .ok (.getfield 11, 3) := by decide +kernel
theorem dX4_cut_26 : decode cX4_cut 26 = .ok (.iload_n 1, 1) := by decide +kernel
theorem dX4_cut_27 : decode cX4_cut 27 = .ok (.iload_n 2, 1) := by decide +kernel
theorem dX4_cut_28 : decode cX4_cut 28 = .ok (.iadd, 1) := by decide +kernel
theorem dX4_cut_29 : decode cX4_cut 29 = .ok (.aload_n 0, 1) := by decide +kernel
theorem dX4_cut_30 : decode cX4_cut 30 = .ok (.getfield 11, 3) := by decide +kernel
theorem dX4_cut_33 : decode cX4_cut 33 = .ok (.iload_n 1, 1) := by decide +kernel
theorem dX4_cut_34 : decode cX4_cut 34 = .ok (.iload_n 3, 1) := by decide +kernel
theorem dX4_cut_35 : decode cX4_cut 35 = .ok (.invokestatic 55, 3) := by decide +kernel
theorem dX4_cut_38 : decode cX4_cut 38 = .ok (.aload_n 0, 1) := by decide +kernel
theorem dX4_cut_39 : decode cX4_cut 39 = .ok (.getfield 15, 3) := by decide +kernel
theorem dX4_cut_42 : decode cX4_cut 42 = .ok (.iload_n 1, 1) := by decide +kernel
theorem dX4_cut_43 : decode cX4_cut 43 = .ok (.iload_n 2, 1) := by decide +kernel
theorem dX4_cut_44 : decode cX4_cut 44 = .ok (.iadd, 1) := by decide +kernel
theorem dX4_cut_45 : decode cX4_cut 45 = .ok (.aload_n 0, 1) := by decide +kernel
theorem dX4_cut_46 : decode cX4_cut 46 = .ok (.getfield 15, 3) := by decide +kernel
theorem dX4_cut_49 : decode cX4_cut 49 = .ok (.iload_n 1, 1) := by decide +kernel
theorem dX4_cut_50 : decode cX4_cut 50 = .ok (.iload_n 3, 1) := by decide +kernel
theorem dX4_cut_51 : decode cX4_cut 51 = .ok (.invokestatic 55, 3) := by decide +kernel
theorem dX4_cut_54 : decode cX4_cut 54 = .ok (.aload_n 0, 1) := by decide +kernel
theorem dX4_cut_55 : decode cX4_cut 55 = .ok (.getfield 18, 3) := by decide +kernel
theorem dX4_cut_58 : decode cX4_cut 58 = .ok (.iload_n 1, 1) := by decide +kernel
theorem dX4_cut_59 : decode cX4_cut 59 = .ok (.iload_n 2, 1) := by decide +kernel
theorem dX4_cut_60 : decode cX4_cut 60 = .ok (.iadd, 1) := by decide +kernel
theorem dX4_cut_61 : decode cX4_cut 61 = .ok (.aload_n 0, 1) := by decide +kernel
theorem dX4_cut_62 : decode cX4_cut 62 = .ok (.getfield 18, 3) := by decide +kernel
theorem dX4_cut_65 : decode cX4_cut 65 = .ok (.iload_n 1, 1) := by decide +kernel
theorem dX4_cut_66 : decode cX4_cut 66 = .ok (.iload_n 3, 1) := by decide +kernel
theorem dX4_cut_67 : decode cX4_cut 67 = .ok (.invokestatic 55, 3) := by decide +kernel
theorem dX4_cut_70 : decode cX4_cut 70 = .ok (.aload_n 0, 1) := by decide +kernel
theorem dX4_cut_71 : decode cX4_cut 71 = .ok (.getfield 21, 3) := by decide +kernel
theorem dX4_cut_74 : decode cX4_cut 74 = .ok (.iload_n 1, 1) := by decide +kernel
theorem dX4_cut_75 : decode cX4_cut 75 = .ok (.iload_n 2, 1) := by decide +kernel
theorem dX4_cut_76 : decode cX4_cut 76 = .ok (.iadd, 1) := by decide +kernel
theorem dX4_cut_77 : decode cX4_cut 77 = .ok (.aload_n 0, 1) := by decide +kernel
theorem dX4_cut_78 : decode cX4_cut 78 = .ok (.getfield 21, 3) := by decide +kernel
theorem dX4_cut_81 : decode cX4_cut 81 = .ok (.iload_n 1, 1) := by decide +kernel
theorem dX4_cut_82 : decode cX4_cut 82 = .ok (.iload_n 3, 1) := by decide +kernel
theorem dX4_cut_83 : decode cX4_cut 83 = .ok (.invokestatic 55, 3) := by decide +kernel
theorem dX4_cut_86 : decode cX4_cut 86 = .ok (.aload_n 0, 1) := by decide +kernel
theorem dX4_cut_87 : decode cX4_cut 87 = .ok (.dup, 1) := by decide +kernel
theorem dX4_cut_88 : decode cX4_cut 88 = .ok (.getfield 31, 3) := by decide +kernel
theorem dX4_cut_91 : decode cX4_cut 91 = .ok (.iload_n 2, 1) := by decide +kernel
theorem dX4_cut_92 : decode cX4_cut 92 = .ok (.isub, 1) := by decide +kernel
theorem dX4_cut_93 : decode cX4_cut 93 = .ok (.putfield 31, 3) := by decide +kernel
theorem dX4_cut_96 : decode cX4_cut 96 = .ok (.return_, 1) := by decide +kernel
theorem dX5_init_0 : decode cX5_init 0 = .ok (.aload_n 0, 1) := by decide +kernel
theorem dX5_init_1 : decode cX5_init 1 = .ok (.invokespecial 3, 3) := by decide +kernel
theorem dX5_init_4 : decode cX5_init 4 = .ok (.aload_n 0, 1) := by decide +kernel
theorem dX5_init_5 : decode cX5_init 5 = .ok (.bipush 60, 2) := by decide +kernel
theorem dX5_init_7 : decode cX5_init 7 = .ok (.newarray .int, 2) := by decide +kernel
theorem dX5_init_9 : decode cX5_init 9 = .ok (.putfield 11, 3) := by decide +kernel
theorem dX5_init_12 : decode cX5_init 12 = .ok (.return_, 1) := by decide +kernel
theorem dX5_length_0 : decode cX5_length 0 = .ok (.aload_n 0, 1) := by decide +kernel
theorem dX5_length_1 : decode cX5_length 1 = .ok (.getfield 15, 3) := by decide +kernel
theorem dX5_length_4 : decode cX5_length 4 = .ok (.ireturn, 1) := by decide +kernel
theorem dX5_hasRoomFor_0 : decode cX5_hasRoomFor 0 = .ok (.aload_n 0, 1) := by decide +kernel
theorem dX5_hasRoomFor_1 : decode cX5_hasRoomFor 1 = .ok (.getfield 15, 3) := by decide +kernel
theorem dX5_hasRoomFor_4 : decode cX5_hasRoomFor 4 = .ok (.iload_n 1, 1) := by decide +kernel
theorem dX5_hasRoomFor_5 : decode cX5_hasRoomFor 5 = .ok (.iadd, 1) := by decide +kernel
theorem dX5_hasRoomFor_6 : decode cX5_hasRoomFor 6 = .ok (.bipush 60, 2) := by decide +kernel
theorem dX5_hasRoomFor_8 : decode cX5_hasRoomFor 8 = .ok (.if_icmp .gt 7, 3) := by decide +kernel
theorem dX5_hasRoomFor_11 : decode cX5_hasRoomFor 11 = .ok (.iconst 1, 1) := by decide +kernel
theorem dX5_hasRoomFor_12 : decode cX5_hasRoomFor 12 = .ok (.goto 4, 3) := by decide +kernel
theorem dX5_hasRoomFor_15 : decode cX5_hasRoomFor 15 = .ok (.iconst 0, 1) := by decide +kernel
theorem dX5_hasRoomFor_16 : decode cX5_hasRoomFor 16 = .ok (.ireturn, 1) := by decide +kernel
theorem dX5_append_0 : decode cX5_append 0 = .ok (.bipush 24, 2) := by decide +kernel
theorem dX5_append_2 : decode cX5_append 2 = .ok (.istore_n 2, 1) := by decide +kernel
theorem dX5_append_3 : decode cX5_append 3 = .ok (.iload_n 2, 1) := by decide +kernel
theorem dX5_append_4 : decode cX5_append 4 = .ok (.ifCond .lt 44, 3) := by decide +kernel
theorem dX5_append_7 : decode cX5_append 7 = .ok (.aload_n 0, 1) := by decide +kernel
theorem dX5_append_8 : decode cX5_append 8 = .ok (.getfield 15, 3) := by decide +kernel
theorem dX5_append_11 : decode cX5_append 11 = .ok (.bipush 60, 2) := by decide +kernel
theorem dX5_append_13 : decode cX5_append 13 = .ok (.if_icmp .ge 29, 3) := by decide +kernel
theorem dX5_append_16 : decode cX5_append 16 = .ok (.aload_n 0, 1) := by decide +kernel
theorem dX5_append_17 : decode cX5_append 17 = .ok (.getfield 11, 3) := by decide +kernel
theorem dX5_append_20 : decode cX5_append 20 = .ok (.aload_n 0, 1) := by decide +kernel
theorem dX5_append_21 : decode cX5_append 21 = .ok (.getfield 15, 3) := by decide +kernel
theorem dX5_append_24 : decode cX5_append 24 = .ok (.iload_n 1, 1) := by decide +kernel
theorem dX5_append_25 : decode cX5_append 25 = .ok (.iload_n 2, 1) := by decide +kernel
theorem dX5_append_26 : decode cX5_append 26 = .ok (.iushr, 1) := by decide +kernel
theorem dX5_append_27 : decode cX5_append 27 = .ok (.sipush 255, 3) := by decide +kernel
theorem dX5_append_30 : decode cX5_append 30 = .ok (.iand, 1) := by decide +kernel
theorem dX5_append_31 : decode cX5_append 31 = .ok (.iastore, 1) := by decide +kernel
theorem dX5_append_32 : decode cX5_append 32 = .ok (.aload_n 0, 1) := by decide +kernel
theorem dX5_append_33 : decode cX5_append 33 = .ok (.dup, 1) := by decide +kernel
theorem dX5_append_34 : decode cX5_append 34 = .ok (.getfield 15, 3) := by decide +kernel
theorem dX5_append_37 : decode cX5_append 37 = .ok (.iconst 1, 1) := by decide +kernel
theorem dX5_append_38 : decode cX5_append 38 = .ok (.iadd, 1) := by decide +kernel
theorem dX5_append_39 : decode cX5_append 39 = .ok (.putfield 15, 3) := by decide +kernel
theorem dX5_append_42 : decode cX5_append 42 = .ok (.iinc 2 (-8), 3) := by decide +kernel
theorem dX5_append_45 : decode cX5_append 45 = .ok (.goto (-42), 3) := by decide +kernel
theorem dX5_append_48 : decode cX5_append 48 = .ok (.return_, 1) := by decide +kernel
theorem dX5_byteAt_0 : decode cX5_byteAt 0 = .ok (.iload_n 1, 1) := by decide +kernel
theorem dX5_byteAt_1 : decode cX5_byteAt 1 = .ok (.ifCond .lt 11, 3) := by decide +kernel
theorem dX5_byteAt_4 : decode cX5_byteAt 4 = .ok (.iload_n 1, 1) := by decide +kernel
theorem dX5_byteAt_5 : decode cX5_byteAt 5 = .ok (.aload_n 0, 1) := by decide +kernel
theorem dX5_byteAt_6 : decode cX5_byteAt 6 = .ok (.getfield 15, 3) := by decide +kernel
theorem dX5_byteAt_9 : decode cX5_byteAt 9 = .ok (.if_icmp .lt 7, 3) := by decide +kernel
theorem dX5_byteAt_12 : decode cX5_byteAt 12 = .ok (.iconst (-1), 1) := by decide +kernel
theorem dX5_byteAt_13 : decode cX5_byteAt 13 = .ok (.goto 9, 3) := by decide +kernel
theorem dX5_byteAt_16 : decode cX5_byteAt 16 = .ok (.aload_n 0, 1) := by decide +kernel
theorem dX5_byteAt_17 : decode cX5_byteAt 17 = .ok (.getfield 11, 3) := by decide +kernel
theorem dX5_byteAt_20 : decode cX5_byteAt 20 = .ok (.iload_n 1, 1) := by decide +kernel
theorem dX5_byteAt_21 : decode cX5_byteAt 21 = .ok (.iaload, 1) := by decide +kernel
theorem dX5_byteAt_22 : decode cX5_byteAt 22 = .ok (.ireturn, 1) := by decide +kernel
theorem dX5_wipe_0 : decode cX5_wipe 0 = .ok (.aload_n 0, 1) := by decide +kernel
theorem dX5_wipe_1 : decode cX5_wipe 1 = .ok (.iconst 0, 1) := by decide +kernel
theorem dX5_wipe_2 : decode cX5_wipe 2 = .ok (.putfield 15, 3) := by decide +kernel
theorem dX5_wipe_5 : decode cX5_wipe 5 = .ok (.return_, 1) := by decide +kernel
theorem dX6_init_0 : decode cX6_init 0 = .ok (.aload_n 0, 1) := by decide +kernel
theorem dX6_init_1 : decode cX6_init 1 = .ok (.invokespecial 1, 3) := by decide +kernel
theorem dX6_init_4 : decode cX6_init 4 = .ok (.aload_n 0, 1) := by decide +kernel
theorem dX6_init_5 : decode cX6_init 5 = .ok (.iload_n 1, 1) := by decide +kernel
theorem dX6_init_6 : decode cX6_init 6 = .ok (.putfield 7, 3) := by decide +kernel
theorem dX6_init_9 : decode cX6_init 9 = .ok (.aload_n 0, 1) := by decide +kernel
theorem dX6_init_10 : decode cX6_init 10 = .ok (.iload_n 2, 1) := by decide +kernel
theorem dX6_init_11 : decode cX6_init 11 = .ok (.i2l, 1) := by decide +kernel
theorem dX6_init_12 : decode cX6_init 12 = .ok (.putfield 13, 3) := by decide +kernel
theorem dX6_init_15 : decode cX6_init 15 = .ok (.aload_n 0, 1) := by decide +kernel
theorem dX6_init_16 : decode cX6_init 16 = .ok (.new 17, 3) := by decide +kernel
theorem dX6_init_19 : decode cX6_init 19 = .ok (.dup, 1) := by decide +kernel
theorem dX6_init_20 : decode cX6_init 20 = .ok (.iload_n 3, 1) := by decide +kernel
theorem dX6_init_21 : decode cX6_init 21 = .ok (.invokespecial 19, 3) := by decide +kernel
theorem dX6_init_24 : decode cX6_init 24 = .ok (.putfield 22, 3) := by decide +kernel
theorem dX6_init_27 : decode cX6_init 27 = .ok (.return_, 1) := by decide +kernel
theorem dX6_price_0 : decode cX6_price 0 = .ok (.aload_n 0, 1) := by decide +kernel
theorem dX6_price_1 : decode cX6_price 1 = .ok (.getfield 13, 3) := by decide +kernel
theorem dX6_price_4 : decode cX6_price 4 = .ok (.aload_n 0, 1) := by decide +kernel
theorem dX6_price_5 : decode cX6_price 5 = .ok (.getfield 7, 3) := by decide +kernel
theorem dX6_price_8 : decode cX6_price 8 = .ok (.i2l, 1) := by decide +kernel
theorem dX6_price_9 : decode cX6_price 9 = .ok (.ladd, 1) := by decide +kernel
theorem dX6_price_10 : decode cX6_price 10 = .ok (.lstore_n 1, 1) := by decide +kernel
theorem dX6_price_11 : decode cX6_price 11 = .ok (.lload_n 1, 1) := by decide +kernel
theorem dX6_price_12 : decode cX6_price 12 = .ok (.lconst 0, 1) := by decide +kernel
theorem dX6_price_13 : decode cX6_price 13 = .ok (.lcmp, 1) := by decide +kernel
theorem dX6_price_14 : decode cX6_price 14 = .ok (.ifCond .gt 7, 3) := by decide +kernel
theorem dX6_price_17 : decode cX6_price 17 = .ok (.iconst 0, 1) := by decide +kernel
theorem dX6_price_18 : decode cX6_price 18 = .ok (.goto 15, 3) := by decide +kernel
theorem dX6_price_21 : decode cX6_price 21 = .ok (.ldc2_w 26, 3) := by decide +kernel
theorem dX6_price_24 : decode cX6_price 24 = .ok (.aload_n 0, 1) := by decide +kernel
theorem dX6_price_25 : decode cX6_price 25 = .ok (.getfield 7, 3) := by decide +kernel
theorem dX6_price_28 : decode cX6_price 28 = .ok (.i2l, 1) := by decide +kernel
theorem dX6_price_29 : decode cX6_price 29 = .ok (.lmul, 1) := by decide +kernel
theorem dX6_price_30 : decode cX6_price 30 = .ok (.lload_n 1, 1) := by decide +kernel
theorem dX6_price_31 : decode cX6_price 31 = .ok (.ldiv, 1) := by decide +kernel
theorem dX6_price_32 : decode cX6_price 32 = .ok (.l2i, 1) := by decide +kernel
theorem dX6_price_33 : decode cX6_price 33 = .ok (.ireturn, 1) := by decide +kernel
theorem dX6_receive_0 : decode cX6_receive 0 = .ok (.iload_n 1, 1) := by decide +kernel
theorem dX6_receive_1 : decode cX6_receive 1 = .ok (.aload_n 0, 1) := by decide +kernel
theorem dX6_receive_2 : decode cX6_receive 2 = .ok (.getfield 22, 3) := by decide +kernel
theorem dX6_receive_5 : decode cX6_receive 5 = .ok (.invokevirtual 28, 3) := by decide +kernel
theorem dX6_receive_8 : decode cX6_receive 8 = .ok (.invokestatic 32, 3) := by decide +kernel
theorem dX6_receive_11 : decode cX6_receive 11 = .ok (.istore_n 3, 1) := by decide +kernel
theorem dX6_receive_12 : decode cX6_receive 12 = .ok (.aload_n 0, 1) := by decide +kernel
theorem dX6_receive_13 : decode cX6_receive 13 = .ok (.getfield 22, 3) := by decide +kernel
theorem dX6_receive_16 : decode cX6_receive 16 = .ok (.iload_n 3, 1) := by decide +kernel
theorem dX6_receive_17 : decode cX6_receive 17 = .ok (.iload_n 2, 1) := by decide +kernel
theorem dX6_receive_18 : decode cX6_receive 18 = .ok (.invokevirtual 38, 3) := by decide +kernel
theorem dX6_receive_21 : decode cX6_receive 21 = .ok (.aload_n 0, 1) := by decide +kernel
theorem dX6_receive_22 : decode cX6_receive 22 = .ok (.dup, 1) := by decide +kernel
theorem dX6_receive_23 : decode cX6_receive 23 = .ok (.getfield 13, 3) := by decide +kernel
theorem dX6_receive_26 : decode cX6_receive 26 = .ok (.iload_n 1, 1) := by decide +kernel
theorem dX6_receive_27 : decode cX6_receive 27 = .ok (.iload_n 3, 1) := by decide +kernel
theorem dX6_receive_28 : decode cX6_receive 28 = .ok (.isub, 1) := by decide +kernel
theorem dX6_receive_29 : decode cX6_receive 29 = .ok (.i2l, 1) := by decide +kernel
theorem dX6_receive_30 : decode cX6_receive 30 = .ok (.ladd, 1) := by decide +kernel
theorem dX6_receive_31 : decode cX6_receive 31 = .ok (.putfield 13, 3) := by decide +kernel
theorem dX6_receive_34 : decode cX6_receive 34 = .ok (.return_, 1) := by decide +kernel
theorem dX6_reap_0 : decode cX6_reap 0 = .ok (.aload_n 0, 1) := by decide +kernel
theorem dX6_reap_1 : decode cX6_reap 1 = .ok (.dup, 1) := by decide +kernel
theorem dX6_reap_2 : decode cX6_reap 2 = .ok (.getfield 13, 3) := by decide +kernel
theorem dX6_reap_5 : decode cX6_reap 5 = .ok (.aload_n 0, 1) := by decide +kernel
theorem dX6_reap_6 : decode cX6_reap 6 = .ok (.getfield 42, 3) := by decide +kernel
theorem dX6_reap_9 : decode cX6_reap 9 = .ok (.i2l, 1) := by decide +kernel
theorem dX6_reap_10 : decode cX6_reap 10 = .ok (.ladd, 1) := by decide +kernel
theorem dX6_reap_11 : decode cX6_reap 11 = .ok (.putfield 13, 3) := by decide +kernel
theorem dX6_reap_14 : decode cX6_reap 14 = .ok (.aload_n 0, 1) := by decide +kernel
theorem dX6_reap_15 : decode cX6_reap 15 = .ok (.iconst 0, 1) := by decide +kernel
theorem dX6_reap_16 : decode cX6_reap 16 = .ok (.putfield 42, 3) := by decide +kernel
theorem dX6_reap_19 : decode cX6_reap 19 = .ok (.return_, 1) := by decide +kernel
theorem dX6_payBack_0 : decode cX6_payBack 0 = .ok (.aload_n 0, 1) := by decide +kernel
theorem dX6_payBack_1 : decode cX6_payBack 1 = .ok (.getfield 45, 3) := by decide +kernel
theorem dX6_payBack_4 : decode cX6_payBack 4 = .ok (.aload_n 0, 1) := by decide +kernel
theorem dX6_payBack_5 : decode cX6_payBack 5 = .ok (.getfield 13, 3) := by decide +kernel
theorem dX6_payBack_8 : decode cX6_payBack 8 = .ok (.invokestatic 48, 3) := by decide +kernel
theorem dX6_payBack_11 : decode cX6_payBack 11 = .ok (.aload_n 0, 1) := by decide +kernel
theorem dX6_payBack_12 : decode cX6_payBack 12 = .ok (.getfield 22, 3) := by decide +kernel
theorem dX6_payBack_15 : decode cX6_payBack 15 = .ok (.invokevirtual 28, 3) := by decide +kernel
theorem dX6_payBack_18 : decode cX6_payBack 18 = .ok (.i2l, 1) := by decide +kernel
theorem dX6_payBack_19 : decode cX6_payBack 19 = .ok (.invokestatic 48, 3) := by decide +kernel
theorem dX6_payBack_22 : decode cX6_payBack 22 = .ok (.l2i, 1) := by decide +kernel
theorem dX6_payBack_23 : decode cX6_payBack 23 = .ok (.istore_n 2, 1) := by decide +kernel
theorem dX6_payBack_24 : decode cX6_payBack 24 = .ok (.aload_n 0, 1) := by decide +kernel
theorem dX6_payBack_25 : decode cX6_payBack 25 = .ok (.dup, 1) := by decide +kernel
theorem dX6_payBack_26 : decode cX6_payBack 26 = .ok (.getfield 13, 3) := by decide +kernel
theorem dX6_payBack_29 : decode cX6_payBack 29 = .ok (.iload_n 2, 1) := by decide +kernel
theorem dX6_payBack_30 : decode cX6_payBack 30 = .ok (.i2l, 1) := by decide +kernel
theorem dX6_payBack_31 : decode cX6_payBack 31 = .ok (.lsub, 1) := by decide +kernel
theorem dX6_payBack_32 : decode cX6_payBack 32 = .ok (.putfield 13, 3) := by decide +kernel
theorem dX6_payBack_35 : decode cX6_payBack 35 = .ok (.aload_n 0, 1) := by decide +kernel
theorem dX6_payBack_36 : decode cX6_payBack 36 = .ok (.dup, 1) := by decide +kernel
theorem dX6_payBack_37 : decode cX6_payBack 37 = .ok (.getfield 45, 3) := by decide +kernel
theorem dX6_payBack_40 : decode cX6_payBack 40 = .ok (.iload_n 2, 1) := by decide +kernel
theorem dX6_payBack_41 : decode cX6_payBack 41 = .ok (.i2l, 1) := by decide +kernel
theorem dX6_payBack_42 : decode cX6_payBack 42 = .ok (.lsub, 1) := by decide +kernel
theorem dX6_payBack_43 : decode cX6_payBack 43 = .ok (.putfield 45, 3) := by decide +kernel
theorem dX6_payBack_46 : decode cX6_payBack 46 = .ok (.aload_n 0, 1) := by decide +kernel
theorem dX6_payBack_47 : decode cX6_payBack 47 = .ok (.getfield 22, 3) := by decide +kernel
theorem dX6_payBack_50 : decode cX6_payBack 50 = .ok (.iload_n 2, 1) := by decide +kernel
theorem dX6_payBack_51 : decode cX6_payBack 51 = .ok (.iload_n 1, 1) := by decide +kernel
theorem dX6_payBack_52 : decode cX6_payBack 52 = .ok (.invokevirtual 38, 3) := by decide +kernel
theorem dX6_payBack_55 : decode cX6_payBack 55 = .ok (.return_, 1) := by decide +kernel
theorem dX6_buy_0 : decode cX6_buy 0 = .ok (.aload_n 0, 1) := by decide +kernel
theorem dX6_buy_1 : decode cX6_buy 1 = .ok (.dup, 1) := by decide +kernel
theorem dX6_buy_2 : decode cX6_buy 2 = .ok (.getfield 13, 3) := by decide +kernel
theorem dX6_buy_5 : decode cX6_buy 5 = .ok (.iload_n 1, 1) := by decide +kernel
theorem dX6_buy_6 : decode cX6_buy 6 = .ok (.i2l, 1) := by decide +kernel
theorem dX6_buy_7 : decode cX6_buy 7 = .ok (.lsub, 1) := by decide +kernel
theorem dX6_buy_8 : decode cX6_buy 8 = .ok (.putfield 13, 3) := by decide +kernel
theorem dX6_buy_11 : decode cX6_buy 11 = .ok (.aload_n 0, 1) := by decide +kernel
theorem dX6_buy_12 : decode cX6_buy 12 = .ok (.dup, 1) := by decide +kernel
theorem dX6_buy_13 : decode cX6_buy 13 = .ok (.getfield 51, 3) := by decide +kernel
theorem dX6_buy_16 : decode cX6_buy 16 = .ok (.iload_n 1, 1) := by decide +kernel
theorem dX6_buy_17 : decode cX6_buy 17 = .ok (.i2l, 1) := by decide +kernel
theorem dX6_buy_18 : decode cX6_buy 18 = .ok (.ladd, 1) := by decide +kernel
theorem dX6_buy_19 : decode cX6_buy 19 = .ok (.putfield 51, 3) := by decide +kernel
theorem dX6_buy_22 : decode cX6_buy 22 = .ok (.aload_n 0, 1) := by decide +kernel
theorem dX6_buy_23 : decode cX6_buy 23 = .ok (.getfield 22, 3) := by decide +kernel
theorem dX6_buy_26 : decode cX6_buy 26 = .ok (.iload_n 1, 1) := by decide +kernel
theorem dX6_buy_27 : decode cX6_buy 27 = .ok (.iload_n 2, 1) := by decide +kernel
theorem dX6_buy_28 : decode cX6_buy 28 = .ok (.invokevirtual 38, 3) := by decide +kernel
theorem dX6_buy_31 : decode cX6_buy 31 = .ok (.return_, 1) := by decide +kernel
theorem dX6_sell_0 : decode cX6_sell 0 = .ok (.aload_n 0, 1) := by decide +kernel
theorem dX6_sell_1 : decode cX6_sell 1 = .ok (.getfield 22, 3) := by decide +kernel
theorem dX6_sell_4 : decode cX6_sell 4 = .ok (.iload_n 1, 1) := by decide +kernel
theorem dX6_sell_5 : decode cX6_sell 5 = .ok (.invokevirtual 54, 3) := by decide +kernel
theorem dX6_sell_8 : decode cX6_sell 8 = .ok (.aload_n 0, 1) := by decide +kernel
theorem dX6_sell_9 : decode cX6_sell 9 = .ok (.dup, 1) := by decide +kernel
theorem dX6_sell_10 : decode cX6_sell 10 = .ok (.getfield 13, 3) := by decide +kernel
theorem dX6_sell_13 : decode cX6_sell 13 = .ok (.iload_n 1, 1) := by decide +kernel
theorem dX6_sell_14 : decode cX6_sell 14 = .ok (.i2l, 1) := by decide +kernel
theorem dX6_sell_15 : decode cX6_sell 15 = .ok (.ladd, 1) := by decide +kernel
theorem dX6_sell_16 : decode cX6_sell 16 = .ok (.putfield 13, 3) := by decide +kernel
theorem dX6_sell_19 : decode cX6_sell 19 = .ok (.aload_n 0, 1) := by decide +kernel
theorem dX6_sell_20 : decode cX6_sell 20 = .ok (.dup, 1) := by decide +kernel
theorem dX6_sell_21 : decode cX6_sell 21 = .ok (.getfield 57, 3) := by decide +kernel
theorem dX6_sell_24 : decode cX6_sell 24 = .ok (.iload_n 1, 1) := by decide +kernel
theorem dX6_sell_25 : decode cX6_sell 25 = .ok (.i2l, 1) := by decide +kernel
theorem dX6_sell_26 : decode cX6_sell 26 = .ok (.ladd, 1) := by decide +kernel
theorem dX6_sell_27 : decode cX6_sell 27 = .ok (.putfield 57, 3) := by decide +kernel
theorem dX6_sell_30 : decode cX6_sell 30 = .ok (.return_, 1) := by decide +kernel
theorem dX6_lend_0 : decode cX6_lend 0 = .ok (.aload_n 0, 1) := by decide +kernel
theorem dX6_lend_1 : decode cX6_lend 1 = .ok (.getfield 22, 3) := by decide +kernel
theorem dX6_lend_4 : decode cX6_lend 4 = .ok (.iload_n 1, 1) := by decide +kernel
theorem dX6_lend_5 : decode cX6_lend 5 = .ok (.invokevirtual 54, 3) := by decide +kernel
theorem dX6_lend_8 : decode cX6_lend 8 = .ok (.aload_n 0, 1) := by decide +kernel
theorem dX6_lend_9 : decode cX6_lend 9 = .ok (.dup, 1) := by decide +kernel
theorem dX6_lend_10 : decode cX6_lend 10 = .ok (.getfield 13, 3) := by decide +kernel
theorem dX6_lend_13 : decode cX6_lend 13 = .ok (.iload_n 1, 1) := by decide +kernel
theorem dX6_lend_14 : decode cX6_lend 14 = .ok (.i2l, 1) := by decide +kernel
theorem dX6_lend_15 : decode cX6_lend 15 = .ok (.ladd, 1) := by decide +kernel
theorem dX6_lend_16 : decode cX6_lend 16 = .ok (.putfield 13, 3) := by decide +kernel
theorem dX6_lend_19 : decode cX6_lend 19 = .ok (.aload_n 0, 1) := by decide +kernel
theorem dX6_lend_20 : decode cX6_lend 20 = .ok (.dup, 1) := by decide +kernel
theorem dX6_lend_21 : decode cX6_lend 21 = .ok (.getfield 45, 3) := by decide +kernel
theorem dX6_lend_24 : decode cX6_lend 24 = .ok (.iload_n 1, 1) := by decide +kernel
theorem dX6_lend_25 : decode cX6_lend 25 = .ok (.i2l, 1) := by decide +kernel
theorem dX6_lend_26 : decode cX6_lend 26 = .ok (.iload_n 2, 1) := by decide +kernel
theorem dX6_lend_27 : decode cX6_lend 27 = .ok (.i2l, 1) := by decide +kernel
theorem dX6_lend_28 : decode cX6_lend 28 = .ok (.lmul, 1) := by decide +kernel
theorem dX6_lend_29 : decode cX6_lend 29 = .ok (.ldc2_w 60, 3) := by decide +kernel
theorem dX6_lend_32 : decode cX6_lend 32 = .ok (.ladd, 1) := by decide +kernel
theorem dX6_lend_33 : decode cX6_lend 33 = .ok (.ldc2_w 62, 3) := by decide +kernel
theorem dX6_lend_36 : decode cX6_lend 36 = .ok (.ldiv, 1) := by decide +kernel
theorem dX6_lend_37 : decode cX6_lend 37 = .ok (.ladd, 1) := by decide +kernel
theorem dX6_lend_38 : decode cX6_lend 38 = .ok (.putfield 45, 3) := by decide +kernel
theorem dX6_lend_41 : decode cX6_lend 41 = .ok (.return_, 1) := by decide +kernel
theorem dX6_eat_0 : decode cX6_eat 0 = .ok (.aload_n 0, 1) := by decide +kernel
theorem dX6_eat_1 : decode cX6_eat 1 = .ok (.getfield 7, 3) := by decide +kernel
theorem dX6_eat_4 : decode cX6_eat 4 = .ok (.i2l, 1) := by decide +kernel
theorem dX6_eat_5 : decode cX6_eat 5 = .ok (.aload_n 0, 1) := by decide +kernel
theorem dX6_eat_6 : decode cX6_eat 6 = .ok (.getfield 13, 3) := by decide +kernel
theorem dX6_eat_9 : decode cX6_eat 9 = .ok (.invokestatic 48, 3) := by decide +kernel
theorem dX6_eat_12 : decode cX6_eat 12 = .ok (.lstore_n 1, 1) := by decide +kernel
theorem dX6_eat_13 : decode cX6_eat 13 = .ok (.aload_n 0, 1) := by decide +kernel
theorem dX6_eat_14 : decode cX6_eat 14 = .ok (.getfield 7, 3) := by decide +kernel
theorem dX6_eat_17 : decode cX6_eat 17 = .ok (.i2l, 1) := by decide +kernel
theorem dX6_eat_18 : decode cX6_eat 18 = .ok (.lload_n 1, 1) := by decide +kernel
theorem dX6_eat_19 : decode cX6_eat 19 = .ok (.lsub, 1) := by decide +kernel
theorem dX6_eat_20 : decode cX6_eat 20 = .ok (.lstore_n 3, 1) := by decide +kernel
theorem dX6_eat_21 : decode cX6_eat 21 = .ok (.aload_n 0, 1) := by decide +kernel
theorem dX6_eat_22 : decode cX6_eat 22 = .ok (.dup, 1) := by decide +kernel
theorem dX6_eat_23 : decode cX6_eat 23 = .ok (.getfield 13, 3) := by decide +kernel
theorem dX6_eat_26 : decode cX6_eat 26 = .ok (.lload_n 1, 1) := by decide +kernel
theorem dX6_eat_27 : decode cX6_eat 27 = .ok (.lsub, 1) := by decide +kernel
theorem dX6_eat_28 : decode cX6_eat 28 = .ok (.putfield 13, 3) := by decide +kernel
theorem dX6_eat_31 : decode cX6_eat 31 = .ok (.aload_n 0, 1) := by decide +kernel
theorem dX6_eat_32 : decode cX6_eat 32 = .ok (.dup, 1) := by decide +kernel
theorem dX6_eat_33 : decode cX6_eat 33 = .ok (.getfield 64, 3) := by decide +kernel
theorem dX6_eat_36 : decode cX6_eat 36 = .ok (.lload_n 3, 1) := by decide +kernel
theorem dX6_eat_37 : decode cX6_eat 37 = .ok (.ladd, 1) := by decide +kernel
theorem dX6_eat_38 : decode cX6_eat 38 = .ok (.putfield 64, 3) := by decide +kernel
theorem dX6_eat_41 : decode cX6_eat 41 = .ok (.lload_n 3, 1) := by decide +kernel
theorem dX6_eat_42 : decode cX6_eat 42 = .ok (.lreturn, 1) := by decide +kernel
theorem dX6_spoilLots_0 : decode cX6_spoilLots 0 = .ok (.aload_n 0, 1) := by decide +kernel
theorem dX6_spoilLots_1 : decode cX6_spoilLots 1 = .ok (.dup, 1) := by decide +kernel
theorem dX6_spoilLots_2 : decode cX6_spoilLots 2 = .ok (.getfield 67, 3) := by decide +kernel
theorem dX6_spoilLots_5 : decode cX6_spoilLots 5 = .ok (.aload_n 0, 1) := by decide +kernel
theorem dX6_spoilLots_6 : decode cX6_spoilLots 6 = .ok (.getfield 22, 3) := by decide +kernel
theorem dX6_spoilLots_9 : decode cX6_spoilLots 9 = .ok (.iload_n 1, 1) := by decide +kernel
theorem dX6_spoilLots_10 : decode cX6_spoilLots 10 = .ok (.iload_n 2, 1) := by decide +kernel
theorem dX6_spoilLots_11 : decode cX6_spoilLots 11 = .ok (.invokevirtual 70, 3) := by decide +kernel
theorem dX6_spoilLots_14 : decode cX6_spoilLots 14 = .ok (.ladd, 1) := by decide +kernel
theorem dX6_spoilLots_15 : decode cX6_spoilLots 15 = .ok (.putfield 67, 3) := by decide +kernel
theorem dX6_spoilLots_18 : decode cX6_spoilLots 18 = .ok (.return_, 1) := by decide +kernel
theorem dX6_turnOver_0 : decode cX6_turnOver 0 = .ok (.iload_n 1, 1) := by decide +kernel
theorem dX6_turnOver_1 : decode cX6_turnOver 1 = .ok (.ifCond .gt 4, 3) := by decide +kernel
theorem dX6_turnOver_4 : decode cX6_turnOver 4 = .ok (.return_, 1) := by decide +kernel
theorem dX6_turnOver_5 : decode cX6_turnOver 5 = .ok (.aload_n 0, 1) := by decide +kernel
theorem dX6_turnOver_6 : decode cX6_turnOver 6 = .ok (.getfield 22, 3) := by decide +kernel
theorem dX6_turnOver_9 : decode cX6_turnOver 9 = .ok (.invokevirtual 74, 3) := by decide +kernel
theorem dX6_turnOver_12 : decode cX6_turnOver 12 = .ok (.iload_n 1, 1) := by decide +kernel
theorem dX6_turnOver_13 : decode cX6_turnOver 13 = .ok (.iadd, 1) := by decide +kernel
theorem dX6_turnOver_14 : decode cX6_turnOver 14 = .ok (.iconst 1, 1) := by decide +kernel
theorem dX6_turnOver_15 : decode cX6_turnOver 15 = .ok (.isub, 1) := by decide +kernel
theorem dX6_turnOver_16 : decode cX6_turnOver 16 = .ok (.iload_n 1, 1) := by decide +kernel
theorem dX6_turnOver_17 : decode cX6_turnOver 17 = .ok (.idiv, 1) := by decide +kernel
theorem dX6_turnOver_18 : decode cX6_turnOver 18 = .ok (.istore_n 3, 1) := by decide +kernel
theorem dX6_turnOver_19 : decode cX6_turnOver 19 = .ok (.iload_n 3, 1) := by decide +kernel
theorem dX6_turnOver_20 : decode cX6_turnOver 20 = .ok (.i2l, 1) := by decide +kernel
theorem dX6_turnOver_21 : decode cX6_turnOver 21 = .ok (.aload_n 0, 1) := by decide +kernel
theorem dX6_turnOver_22 : decode cX6_turnOver 22 = .ok (.getfield 13, 3) := by decide +kernel
theorem dX6_turnOver_25 : decode cX6_turnOver 25 = .ok (.invokestatic 48, 3) := by decide +kernel
theorem dX6_turnOver_28 : decode cX6_turnOver 28 = .ok (.l2i, 1) := by decide +kernel
theorem dX6_turnOver_29 : decode cX6_turnOver 29 = .ok (.istore 4, 2) := by decide +kernel
theorem dX6_turnOver_31 : decode cX6_turnOver 31 = .ok (.aload_n 0, 1) := by decide +kernel
theorem dX6_turnOver_32 : decode cX6_turnOver 32 = .ok (.getfield 22, 3) := by decide +kernel
theorem dX6_turnOver_35 : decode cX6_turnOver 35 = .ok (.iload 4, 2) := by decide +kernel
theorem dX6_turnOver_37 : decode cX6_turnOver 37 = .ok (.invokevirtual 54, 3) := by decide +kernel
theorem dX6_turnOver_40 : decode cX6_turnOver 40 = .ok (.aload_n 0, 1) := by decide +kernel
theorem dX6_turnOver_41 : decode cX6_turnOver 41 = .ok (.getfield 22, 3) := by decide +kernel
theorem dX6_turnOver_44 : decode cX6_turnOver 44 = .ok (.iload 4, 2) := by decide +kernel
theorem dX6_turnOver_46 : decode cX6_turnOver 46 = .ok (.iload_n 2, 1) := by decide +kernel
theorem dX6_turnOver_47 : decode cX6_turnOver 47 = .ok (.invokevirtual 38, 3) := by decide +kernel
theorem dX6_turnOver_50 : decode cX6_turnOver 50 = .ok (.return_, 1) := by decide +kernel
theorem dX6_imitate_0 : decode cX6_imitate 0 = .ok (.aload_n 0, 1) := by decide +kernel
theorem dX6_imitate_1 : decode cX6_imitate 1 = .ok (.aload_n 1, 1) := by decide +kernel
theorem dX6_imitate_2 : decode cX6_imitate 2 = .ok (.getfield 7, 3) := by decide +kernel
theorem dX6_imitate_5 : decode cX6_imitate 5 = .ok (.putfield 7, 3) := by decide +kernel
theorem dX6_imitate_8 : decode cX6_imitate 8 = .ok (.aload_n 0, 1) := by decide +kernel
theorem dX6_imitate_9 : decode cX6_imitate 9 = .ok (.aload_n 1, 1) := by decide +kernel
theorem dX6_imitate_10 : decode cX6_imitate 10 = .ok (.getfield 13, 3) := by decide +kernel
theorem dX6_imitate_13 : decode cX6_imitate 13 = .ok (.putfield 13, 3) := by decide +kernel
theorem dX6_imitate_16 : decode cX6_imitate 16 = .ok (.aload_n 0, 1) := by decide +kernel
theorem dX6_imitate_17 : decode cX6_imitate 17 = .ok (.aload_n 1, 1) := by decide +kernel
theorem dX6_imitate_18 : decode cX6_imitate 18 = .ok (.getfield 45, 3) := by decide +kernel
theorem dX6_imitate_21 : decode cX6_imitate 21 = .ok (.putfield 45, 3) := by decide +kernel
theorem dX6_imitate_24 : decode cX6_imitate 24 = .ok (.aload_n 0, 1) := by decide +kernel
theorem dX6_imitate_25 : decode cX6_imitate 25 = .ok (.iconst 0, 1) := by decide +kernel
theorem dX6_imitate_26 : decode cX6_imitate 26 = .ok (.putfield 42, 3) := by decide +kernel
theorem dX6_imitate_29 : decode cX6_imitate 29 = .ok (.aload_n 0, 1) := by decide +kernel
theorem dX6_imitate_30 : decode cX6_imitate 30 = .ok (.getfield 22, 3) := by decide +kernel
theorem dX6_imitate_33 : decode cX6_imitate 33 = .ok (.aload_n 1, 1) := by decide +kernel
theorem dX6_imitate_34 : decode cX6_imitate 34 = .ok (.getfield 22, 3) := by decide +kernel
theorem dX6_imitate_37 : decode cX6_imitate 37 = .ok (.invokevirtual 77, 3) := by decide +kernel
theorem dX6_imitate_40 : decode cX6_imitate 40 = .ok (.return_, 1) := by decide +kernel
theorem dX7_init_0 : decode cX7_init 0 = .ok (.aload_n 0, 1) := by decide +kernel
theorem dX7_init_1 : decode cX7_init 1 = .ok (.invokespecial 1, 3) := by decide +kernel
theorem dX7_init_4 : decode cX7_init 4 = .ok (.aload_n 0, 1) := by decide +kernel
theorem dX7_init_5 : decode cX7_init 5 = .ok (.new 7, 3) := by decide +kernel
theorem dX7_init_8 : decode cX7_init 8 = .ok (.dup, 1) := by decide +kernel
theorem dX7_init_9 : decode cX7_init 9 = .ok (.invokespecial 9, 3) := by decide +kernel
theorem dX7_init_12 : decode cX7_init 12 = .ok (.putfield 10, 3) := by decide +kernel
theorem dX7_init_15 : decode cX7_init 15 = .ok (.aload_n 0, 1) := by decide +kernel
theorem dX7_init_16 : decode cX7_init 16 = .ok (.new 16, 3) := by decide +kernel
theorem dX7_init_19 : decode cX7_init 19 = .ok (.dup, 1) := by decide +kernel
theorem dX7_init_20 : decode cX7_init 20 = .ok (.invokespecial 18, 3) := by decide +kernel
theorem dX7_init_23 : decode cX7_init 23 = .ok (.putfield 19, 3) := by decide +kernel
theorem dX7_init_26 : decode cX7_init 26 = .ok (.aload_n 0, 1) := by decide +kernel
theorem dX7_init_27 : decode cX7_init 27 = .ok (.new 23, 3) := by decide +kernel
theorem dX7_init_30 : decode cX7_init 30 = .ok (.dup, 1) := by decide +kernel
theorem dX7_init_31 : decode cX7_init 31 = .ok (.invokespecial 25, 3) := by decide +kernel
theorem dX7_init_34 : decode cX7_init 34 = .ok (.putfield 26, 3) := by decide +kernel
theorem dX7_init_37 : decode cX7_init 37 = .ok (.aload_n 0, 1) := by decide +kernel
theorem dX7_init_38 : decode cX7_init 38 = .ok (.new 23, 3) := by decide +kernel
theorem dX7_init_41 : decode cX7_init 41 = .ok (.dup, 1) := by decide +kernel
theorem dX7_init_42 : decode cX7_init 42 = .ok (.invokespecial 25, 3) := by decide +kernel
theorem dX7_init_45 : decode cX7_init 45 = .ok (.putfield 30, 3) := by decide +kernel
theorem dX7_init_48 : decode cX7_init 48 = .ok (.aload_n 0, 1) := by decide +kernel
theorem dX7_init_49 : decode cX7_init 49 = .ok (.new 33, 3) := by decide +kernel
theorem dX7_init_52 : decode cX7_init 52 = .ok (.dup, 1) := by decide +kernel
theorem dX7_init_53 : decode cX7_init 53 = .ok (.invokespecial 35, 3) := by decide +kernel
theorem dX7_init_56 : decode cX7_init 56 = .ok (.putfield 36, 3) := by decide +kernel
theorem dX7_init_59 : decode cX7_init 59 = .ok (.return_, 1) := by decide +kernel
theorem dX7_feed_0 : decode cX7_feed 0 = .ok (.aload_n 0, 1) := by decide +kernel
theorem dX7_feed_1 : decode cX7_feed 1 = .ok (.getfield 10, 3) := by decide +kernel
theorem dX7_feed_4 : decode cX7_feed 4 = .ok (.bipush 20, 2) := by decide +kernel
theorem dX7_feed_6 : decode cX7_feed 6 = .ok (.invokevirtual 40, 3) := by decide +kernel
theorem dX7_feed_9 : decode cX7_feed 9 = .ok (.ifCond .ne 5, 3) := by decide +kernel
theorem dX7_feed_12 : decode cX7_feed 12 = .ok (.iconst (-1), 1) := by decide +kernel
theorem dX7_feed_13 : decode cX7_feed 13 = .ok (.ireturn, 1) := by decide +kernel
theorem dX7_feed_14 : decode cX7_feed 14 = .ok (.aload_n 0, 1) := by decide +kernel
theorem dX7_feed_15 : decode cX7_feed 15 = .ok (.getfield 10, 3) := by decide +kernel
theorem dX7_feed_18 : decode cX7_feed 18 = .ok (.iload_n 1, 1) := by decide +kernel
theorem dX7_feed_19 : decode cX7_feed 19 = .ok (.invokevirtual 44, 3) := by decide +kernel
theorem dX7_feed_22 : decode cX7_feed 22 = .ok (.aload_n 0, 1) := by decide +kernel
theorem dX7_feed_23 : decode cX7_feed 23 = .ok (.getfield 10, 3) := by decide +kernel
theorem dX7_feed_26 : decode cX7_feed 26 = .ok (.iload_n 2, 1) := by decide +kernel
theorem dX7_feed_27 : decode cX7_feed 27 = .ok (.invokevirtual 44, 3) := by decide +kernel
theorem dX7_feed_30 : decode cX7_feed 30 = .ok (.aload_n 0, 1) := by decide +kernel
theorem dX7_feed_31 : decode cX7_feed 31 = .ok (.getfield 10, 3) := by decide +kernel
theorem dX7_feed_34 : decode cX7_feed 34 = .ok (.iload_n 3, 1) := by decide +kernel
theorem dX7_feed_35 : decode cX7_feed 35 = .ok (.invokevirtual 44, 3) := by decide +kernel
theorem dX7_feed_38 : decode cX7_feed 38 = .ok (.aload_n 0, 1) := by decide +kernel
theorem dX7_feed_39 : decode cX7_feed 39 = .ok (.getfield 10, 3) := by decide +kernel
theorem dX7_feed_42 : decode cX7_feed 42 = .ok (.iload 4, 2) := by decide +kernel
theorem dX7_feed_44 : decode cX7_feed 44 = .ok (.invokevirtual 44, 3) := by decide +kernel
theorem dX7_feed_47 : decode cX7_feed 47 = .ok (.aload_n 0, 1) := by decide +kernel
theorem dX7_feed_48 : decode cX7_feed 48 = .ok (.getfield 10, 3) := by decide +kernel
theorem dX7_feed_51 : decode cX7_feed 51 = .ok (.iload 5, 2) := by decide +kernel
theorem dX7_feed_53 : decode cX7_feed 53 = .ok (.invokevirtual 44, 3) := by decide +kernel
theorem dX7_feed_56 : decode cX7_feed 56 = .ok (.aload_n 0, 1) := by decide +kernel
theorem dX7_feed_57 : decode cX7_feed 57 = .ok (.getfield 10, 3) := by decide +kernel
theorem dX7_feed_60 : decode cX7_feed 60 = .ok (.invokevirtual 48, 3) := by decide +kernel
theorem dX7_feed_63 : decode cX7_feed 63 = .ok (.ireturn, 1) := by decide +kernel
theorem dX7_edict_0 : decode cX7_edict 0 = .ok (.iload_n 1, 1) := by decide +kernel
theorem dX7_edict_1 : decode cX7_edict 1 = .ok (.ifCond .lt 14, 3) := by decide +kernel
theorem dX7_edict_4 : decode cX7_edict 4 = .ok (.iload_n 1, 1) := by decide +kernel
theorem dX7_edict_5 : decode cX7_edict 5 = .ok (.aload_n 0, 1) := by decide +kernel
theorem dX7_edict_6 : decode cX7_edict 6 = .ok (.getfield 10, 3) := by decide +kernel
theorem dX7_edict_9 : decode cX7_edict 9 = .ok (.invokevirtual 48, 3) := by decide +kernel
theorem dX7_edict_12 : decode cX7_edict 12 = .ok (.if_icmp .le 5, 3) := by decide +kernel
theorem dX7_edict_15 : decode cX7_edict 15 = .ok (.iconst (-1), 1) := by decide +kernel
theorem dX7_edict_16 : decode cX7_edict 16 = .ok (.ireturn, 1) := by decide +kernel
theorem dX7_edict_17 : decode cX7_edict 17 = .ok (.aload_n 0, 1) := by decide +kernel
theorem dX7_edict_18 : decode cX7_edict 18 = .ok (.getfield 19, 3) := by decide +kernel
theorem dX7_edict_21 : decode cX7_edict 21 = .ok (.aload_n 0, 1) := by decide +kernel
theorem dX7_edict_22 : decode cX7_edict 22 = .ok (.getfield 10, 3) := by decide +kernel
theorem dX7_edict_25 : decode cX7_edict 25 = .ok (.iload_n 1, 1) := by decide +kernel
theorem dX7_edict_26 : decode cX7_edict 26 = .ok (.invokevirtual 52, 3) := by decide +kernel
theorem dX7_edict_29 : decode cX7_edict 29 = .ok (.istore_n 2, 1) := by decide +kernel
theorem dX7_edict_30 : decode cX7_edict 30 = .ok (.aload_n 0, 1) := by decide +kernel
theorem dX7_edict_31 : decode cX7_edict 31 = .ok (.getfield 10, 3) := by decide +kernel
theorem dX7_edict_34 : decode cX7_edict 34 = .ok (.invokevirtual 56, 3) := by decide +kernel
theorem dX7_edict_37 : decode cX7_edict 37 = .ok (.iload_n 2, 1) := by decide +kernel
theorem dX7_edict_38 : decode cX7_edict 38 = .ok (.ireturn, 1) := by decide +kernel
theorem dX7_rule_0 : decode cX7_rule 0 = .ok (.iload_n 1, 1) := by decide +kernel
theorem dX7_rule_1 : decode cX7_rule 1 = .ok (.invokestatic 59, 3) := by decide +kernel
theorem dX7_rule_4 : decode cX7_rule 4 = .ok (.istore_n 2, 1) := by decide +kernel
theorem dX7_rule_5 : decode cX7_rule 5 = .ok (.iload_n 2, 1) := by decide +kernel
theorem dX7_rule_6 : decode cX7_rule 6 = .ok (.ifCond .ge 7, 3) := by decide +kernel
theorem dX7_rule_9 : decode cX7_rule 9 = .ok (.iconst (-1), 1) := by decide +kernel
theorem dX7_rule_10 : decode cX7_rule 10 = .ok (.goto 11, 3) := by decide +kernel
theorem dX7_rule_13 : decode cX7_rule 13 = .ok (.aload_n 0, 1) := by decide +kernel
theorem dX7_rule_14 : decode cX7_rule 14 = .ok (.getfield 19, 3) := by decide +kernel
theorem dX7_rule_17 : decode cX7_rule 17 = .ok (.iload_n 2, 1) := by decide +kernel
theorem dX7_rule_18 : decode cX7_rule 18 = .ok (.invokevirtual 63, 3) := by decide +kernel
theorem dX7_rule_21 : decode cX7_rule 21 = .ok (.ireturn, 1) := by decide +kernel
theorem dX7_town_0 : decode cX7_town 0 = .ok (.aload_n 0, 1) := by decide +kernel
theorem dX7_town_1 : decode cX7_town 1 = .ok (.getfield 26, 3) := by decide +kernel
theorem dX7_town_4 : decode cX7_town 4 = .ok (.invokevirtual 66, 3) := by decide +kernel
theorem dX7_town_7 : decode cX7_town 7 = .ok (.bipush 8, 2) := by decide +kernel
theorem dX7_town_9 : decode cX7_town 9 = .ok (.if_icmp .ge 34, 3) := by decide +kernel
theorem dX7_town_12 : decode cX7_town 12 = .ok (.iload_n 1, 1) := by decide +kernel
theorem dX7_town_13 : decode cX7_town 13 = .ok (.iconst 1, 1) := by decide +kernel
theorem dX7_town_14 : decode cX7_town 14 = .ok (.sipush 1000, 3) := by decide +kernel
theorem dX7_town_17 : decode cX7_town 17 = .ok (.invokestatic 69, 3) := by decide +kernel
theorem dX7_town_20 : decode cX7_town 20 = .ok (.ifCond .eq 23, 3) := by decide +kernel
theorem dX7_town_23 : decode cX7_town 23 = .ok (.iload_n 2, 1) := by decide +kernel
theorem dX7_town_24 : decode cX7_town 24 = .ok (.iconst 0, 1) := by decide +kernel
theorem dX7_town_25 : decode cX7_town 25 = .ok (.ldc 73, 2) := by decide +kernel
theorem dX7_town_27 : decode cX7_town 27 = .ok (.invokestatic 69, 3) := by decide +kernel
theorem dX7_town_30 : decode cX7_town 30 = .ok (.ifCond .eq 13, 3) := by decide +kernel
theorem dX7_town_33 : decode cX7_town 33 = .ok (.iload_n 3, 1) := by decide +kernel
theorem dX7_town_34 : decode cX7_town 34 = .ok (.iconst 0, 1) := by decide +kernel
theorem dX7_town_35 : decode cX7_town 35 = .ok (.ldc 74, 2) := by decide +kernel
theorem dX7_town_37 : decode cX7_town 37 = .ok (.invokestatic 69, 3) := by decide +kernel
theorem dX7_town_40 : decode cX7_town 40 = .ok (.ifCond .ne 5, 3) := by decide +kernel
theorem dX7_town_43 : decode cX7_town 43 = .ok (.iconst (-1), 1) := by decide +kernel
theorem dX7_town_44 : decode cX7_town 44 = .ok (.ireturn, 1) := by decide +kernel
theorem dX7_town_45 : decode cX7_town 45 = .ok (.aload_n 0, 1) := by decide +kernel
theorem dX7_town_46 : decode cX7_town 46 = .ok (.getfield 26, 3) := by decide +kernel
theorem dX7_town_49 : decode cX7_town 49 = .ok (.new 75, 3) := by decide +kernel
theorem dX7_town_52 : decode cX7_town 52 = .ok (.dup, 1) := by decide +kernel
theorem dX7_town_53 : decode cX7_town 53 = .ok (.iload_n 1, 1) := by decide +kernel
theorem dX7_town_54 : decode cX7_town 54 = .ok (.iload_n 2, 1) := by decide +kernel
theorem dX7_town_55 : decode cX7_town 55 = .ok (.iload_n 3, 1) := by decide +kernel
theorem dX7_town_56 : decode cX7_town 56 = .ok (.invokespecial 77, 3) := by decide +kernel
theorem dX7_town_59 : decode cX7_town 59 = .ok (.invokevirtual 80, 3) := by decide +kernel
theorem dX7_town_62 : decode cX7_town 62 = .ok (.aload_n 0, 1) := by decide +kernel
theorem dX7_town_63 : decode cX7_town 63 = .ok (.getfield 26, 3) := by decide +kernel
theorem dX7_town_66 : decode cX7_town 66 = .ok (.invokevirtual 66, 3) := by decide +kernel
theorem dX7_town_69 : decode cX7_town 69 = .ok (.iconst 1, 1) := by decide +kernel
theorem dX7_town_70 : decode cX7_town 70 = .ok (.isub, 1) := by decide +kernel
theorem dX7_town_71 : decode cX7_town 71 = .ok (.ireturn, 1) := by decide +kernel
theorem dX7_road_0 : decode cX7_road 0 = .ok (.aload_n 0, 1) := by decide +kernel
theorem dX7_road_1 : decode cX7_road 1 = .ok (.getfield 36, 3) := by decide +kernel
theorem dX7_road_4 : decode cX7_road 4 = .ok (.invokevirtual 84, 3) := by decide +kernel
theorem dX7_road_7 : decode cX7_road 7 = .ok (.bipush 12, 2) := by decide +kernel
theorem dX7_road_9 : decode cX7_road 9 = .ok (.if_icmp .ge 52, 3) := by decide +kernel
theorem dX7_road_12 : decode cX7_road 12 = .ok (.iload_n 1, 1) := by decide +kernel
theorem dX7_road_13 : decode cX7_road 13 = .ok (.iload_n 2, 1) := by decide +kernel
theorem dX7_road_14 : decode cX7_road 14 = .ok (.if_icmp .eq 47, 3) := by decide +kernel
theorem dX7_road_17 : decode cX7_road 17 = .ok (.aload_n 0, 1) := by decide +kernel
theorem dX7_road_18 : decode cX7_road 18 = .ok (.getfield 26, 3) := by decide +kernel
theorem dX7_road_21 : decode cX7_road 21 = .ok (.iload_n 1, 1) := by decide +kernel
theorem dX7_road_22 : decode cX7_road 22 = .ok (.invokevirtual 87, 3) := by decide +kernel
theorem dX7_road_25 : decode cX7_road 25 = .ok (.ifnull 36, 3) := by decide +kernel
theorem dX7_road_28 : decode cX7_road 28 = .ok (.aload_n 0, 1) := by decide +kernel
theorem dX7_road_29 : decode cX7_road 29 = .ok (.getfield 26, 3) := by decide +kernel
theorem dX7_road_32 : decode cX7_road 32 = .ok (.iload_n 2, 1) := by decide +kernel
theorem dX7_road_33 : decode cX7_road 33 = .ok (.invokevirtual 87, 3) := by decide +kernel
theorem dX7_road_36 : decode cX7_road 36 = .ok (.ifnull 25, 3) := by decide +kernel
theorem dX7_road_39 : decode cX7_road 39 = .ok (.iload_n 3, 1) := by decide +kernel
theorem dX7_road_40 : decode cX7_road 40 = .ok (.iconst 1, 1) := by decide +kernel
theorem dX7_road_41 : decode cX7_road 41 = .ok (.bipush 6, 2) := by decide +kernel
theorem dX7_road_43 : decode cX7_road 43 = .ok (.invokestatic 69, 3) := by decide +kernel
theorem dX7_road_46 : decode cX7_road 46 = .ok (.ifCond .eq 15, 3) := by decide +kernel
theorem dX7_road_49 : decode cX7_road 49 = .ok (.iload 4, 2) := by decide +kernel
theorem dX7_road_51 : decode cX7_road 51 = .ok (.iconst 1, 1) := by decide +kernel
theorem dX7_road_52 : decode cX7_road 52 = .ok (.sipush 10000, 3) := by decide +kernel
theorem dX7_road_55 : decode cX7_road 55 = .ok (.invokestatic 69, 3) := by decide +kernel
theorem dX7_road_58 : decode cX7_road 58 = .ok (.ifCond .ne 5, 3) := by decide +kernel
theorem dX7_road_61 : decode cX7_road 61 = .ok (.iconst (-1), 1) := by decide +kernel
theorem dX7_road_62 : decode cX7_road 62 = .ok (.ireturn, 1) := by decide +kernel
theorem dX7_road_63 : decode cX7_road 63 = .ok (.aload_n 0, 1) := by decide +kernel
theorem dX7_road_64 : decode cX7_road 64 = .ok (.getfield 36, 3) := by decide +kernel
theorem dX7_road_67 : decode cX7_road 67 = .ok (.new 91, 3) := by decide +kernel
theorem dX7_road_70 : decode cX7_road 70 = .ok (.dup, 1) := by decide +kernel
theorem dX7_road_71 : decode cX7_road 71 = .ok (.iload_n 1, 1) := by decide +kernel
theorem dX7_road_72 : decode cX7_road 72 = .ok (.iload_n 2, 1) := by decide +kernel
theorem dX7_road_73 : decode cX7_road 73 = .ok (.iload_n 3, 1) := by decide +kernel
theorem dX7_road_74 : decode cX7_road 74 = .ok (.iload 4, 2) := by decide +kernel
theorem dX7_road_76 : decode cX7_road 76 = .ok (.invokespecial 93, 3) := by decide +kernel
theorem dX7_road_79 : decode cX7_road 79 = .ok (.invokevirtual 96, 3) := by decide +kernel
theorem dX7_road_82 : decode cX7_road 82 = .ok (.pop, 1) := by decide +kernel
theorem dX7_road_83 : decode cX7_road 83 = .ok (.aload_n 0, 1) := by decide +kernel
theorem dX7_road_84 : decode cX7_road 84 = .ok (.getfield 36, 3) := by decide +kernel
theorem dX7_road_87 : decode cX7_road 87 = .ok (.invokevirtual 84, 3) := by decide +kernel
theorem dX7_road_90 : decode cX7_road 90 = .ok (.iconst 1, 1) := by decide +kernel
theorem dX7_road_91 : decode cX7_road 91 = .ok (.isub, 1) := by decide +kernel
theorem dX7_road_92 : decode cX7_road 92 = .ok (.ireturn, 1) := by decide +kernel
theorem dX7_coin_0 : decode cX7_coin 0 = .ok (.lload_n 1, 1) := by decide +kernel
theorem dX7_coin_1 : decode cX7_coin 1 = .ok (.lconst 0, 1) := by decide +kernel
theorem dX7_coin_2 : decode cX7_coin 2 = .ok (.lcmp, 1) := by decide +kernel
theorem dX7_coin_3 : decode cX7_coin 3 = .ok (.ifCond .lt 11, 3) := by decide +kernel
theorem dX7_coin_6 : decode cX7_coin 6 = .ok (.lload_n 1, 1) := by decide +kernel
theorem dX7_coin_7 : decode cX7_coin 7 = .ok (.ldc2_w 100, 3) := by decide +kernel
theorem dX7_coin_10 : decode cX7_coin 10 = .ok (.lcmp, 1) := by decide +kernel
theorem dX7_coin_11 : decode cX7_coin 11 = .ok (.ifCond .le 5, 3) := by decide +kernel
theorem dX7_coin_14 : decode cX7_coin 14 = .ok (.iconst 0, 1) := by decide +kernel
theorem dX7_coin_15 : decode cX7_coin 15 = .ok (.ireturn, 1) := by decide +kernel
theorem dX7_coin_16 : decode cX7_coin 16 = .ok (.aload_n 0, 1) := by decide +kernel
theorem dX7_coin_17 : decode cX7_coin 17 = .ok (.getfield 26, 3) := by decide +kernel
theorem dX7_coin_20 : decode cX7_coin 20 = .ok (.lload_n 1, 1) := by decide +kernel
theorem dX7_coin_21 : decode cX7_coin 21 = .ok (.putfield 102, 3) := by decide +kernel
theorem dX7_coin_24 : decode cX7_coin 24 = .ok (.iconst 1, 1) := by decide +kernel
theorem dX7_coin_25 : decode cX7_coin 25 = .ok (.ireturn, 1) := by decide +kernel
theorem dX7_harvest_0 : decode cX7_harvest 0 = .ok (.aload_n 0, 1) := by decide +kernel
theorem dX7_harvest_1 : decode cX7_harvest 1 = .ok (.getfield 26, 3) := by decide +kernel
theorem dX7_harvest_4 : decode cX7_harvest 4 = .ok (.iload_n 1, 1) := by decide +kernel
theorem dX7_harvest_5 : decode cX7_harvest 5 = .ok (.invokevirtual 87, 3) := by decide +kernel
theorem dX7_harvest_8 : decode cX7_harvest 8 = .ok (.astore_n 3, 1) := by decide +kernel
theorem dX7_harvest_9 : decode cX7_harvest 9 = .ok (.aload_n 3, 1) := by decide +kernel
theorem dX7_harvest_10 : decode cX7_harvest 10 = .ok (.ifnull 13, 3) := by decide +kernel
theorem dX7_harvest_13 : decode cX7_harvest 13 = .ok (.iload_n 2, 1) := by decide +kernel
theorem dX7_harvest_14 : decode cX7_harvest 14 = .ok (.iconst 0, 1) := by decide +kernel
theorem dX7_harvest_15 : decode cX7_harvest 15 = .ok (.ldc 73, 2) := by decide +kernel
theorem dX7_harvest_17 : decode cX7_harvest 17 = .ok (.invokestatic 69, 3) := by decide +kernel
theorem dX7_harvest_20 : decode cX7_harvest 20 = .ok (.ifCond .ne 5, 3) := by decide +kernel
theorem dX7_harvest_23 : decode cX7_harvest 23 = .ok (.iconst 0, 1) := by decide +kernel
theorem dX7_harvest_24 : decode cX7_harvest 24 = .ok (.ireturn, 1) := by decide +kernel
theorem dX7_harvest_25 : decode cX7_harvest 25 = .ok (.aload_n 3, 1) := by decide +kernel
theorem dX7_harvest_26 : decode cX7_harvest 26 = .ok (.iload_n 2, 1) := by decide +kernel
theorem dX7_harvest_27 : decode cX7_harvest 27 = .ok (.putfield 106, 3) := by decide +kernel
theorem dX7_harvest_30 : decode cX7_harvest 30 = .ok (.iconst 1, 1) := by decide +kernel
theorem dX7_harvest_31 : decode cX7_harvest 31 = .ok (.ireturn, 1) := by decide +kernel
theorem dX7_step_0 : decode cX7_step 0 = .ok (.iload_n 1, 1) := by decide +kernel
theorem dX7_step_1 : decode cX7_step 1 = .ok (.iconst 1, 1) := by decide +kernel
theorem dX7_step_2 : decode cX7_step 2 = .ok (.bipush 24, 2) := by decide +kernel
theorem dX7_step_4 : decode cX7_step 4 = .ok (.invokestatic 69, 3) := by decide +kernel
theorem dX7_step_7 : decode cX7_step 7 = .ok (.ifCond .eq 18, 3) := by decide +kernel
theorem dX7_step_10 : decode cX7_step 10 = .ok (.aload_n 0, 1) := by decide +kernel
theorem dX7_step_11 : decode cX7_step 11 = .ok (.getfield 26, 3) := by decide +kernel
theorem dX7_step_14 : decode cX7_step 14 = .ok (.getfield 110, 3) := by decide +kernel
theorem dX7_step_17 : decode cX7_step 17 = .ok (.iload_n 1, 1) := by decide +kernel
theorem dX7_step_18 : decode cX7_step 18 = .ok (.iadd, 1) := by decide +kernel
theorem dX7_step_19 : decode cX7_step 19 = .ok (.sipush 2000, 3) := by decide +kernel
theorem dX7_step_22 : decode cX7_step 22 = .ok (.if_icmp .le 5, 3) := by decide +kernel
theorem dX7_step_25 : decode cX7_step 25 = .ok (.iconst (-1), 1) := by decide +kernel
theorem dX7_step_26 : decode cX7_step 26 = .ok (.ireturn, 1) := by decide +kernel
theorem dX7_step_27 : decode cX7_step 27 = .ok (.aload_n 0, 1) := by decide +kernel
theorem dX7_step_28 : decode cX7_step 28 = .ok (.getfield 26, 3) := by decide +kernel
theorem dX7_step_31 : decode cX7_step 31 = .ok (.iload_n 1, 1) := by decide +kernel
theorem dX7_step_32 : decode cX7_step 32 = .ok (.aload_n 0, 1) := by decide +kernel
theorem dX7_step_33 : decode cX7_step 33 = .ok (.getfield 19, 3) := by decide +kernel
theorem dX7_step_36 : decode cX7_step 36 = .ok (.invokevirtual 113, 3) := by decide +kernel
theorem dX7_step_39 : decode cX7_step 39 = .ok (.pop2, 1) := by decide +kernel
theorem dX7_step_40 : decode cX7_step 40 = .ok (.iconst 0, 1) := by decide +kernel
theorem dX7_step_41 : decode cX7_step 41 = .ok (.istore_n 2, 1) := by decide +kernel
theorem dX7_step_42 : decode cX7_step 42 = .ok (.iload_n 2, 1) := by decide +kernel
theorem dX7_step_43 : decode cX7_step 43 = .ok (.aload_n 0, 1) := by decide +kernel
theorem dX7_step_44 : decode cX7_step 44 = .ok (.getfield 36, 3) := by decide +kernel
theorem dX7_step_47 : decode cX7_step 47 = .ok (.invokevirtual 84, 3) := by decide +kernel
theorem dX7_step_50 : decode cX7_step 50 = .ok (.if_icmp .ge 24, 3) := by decide +kernel
theorem dX7_step_53 : decode cX7_step 53 = .ok (.aload_n 0, 1) := by decide +kernel
theorem dX7_step_54 : decode cX7_step 54 = .ok (.getfield 36, 3) := by decide +kernel
theorem dX7_step_57 : decode cX7_step 57 = .ok (.iload_n 2, 1) := by decide +kernel
theorem dX7_step_58 : decode cX7_step 58 = .ok (.invokevirtual 117, 3) := by decide +kernel
theorem dX7_step_61 : decode cX7_step 61 = .ok (.checkcast 91, 3) := by decide +kernel
theorem dX7_step_64 : decode cX7_step 64 = .ok (.iconst 0, 1) := by decide +kernel
theorem dX7_step_65 : decode cX7_step 65 = .ok (.putfield 121, 3) := by decide +kernel
theorem dX7_step_68 : decode cX7_step 68 = .ok (.iinc 2 1, 3) := by decide +kernel
theorem dX7_step_71 : decode cX7_step 71 = .ok (.goto (-29), 3) := by decide +kernel
theorem dX7_step_74 : decode cX7_step 74 = .ok (.aload_n 0, 1) := by decide +kernel
theorem dX7_step_75 : decode cX7_step 75 = .ok (.getfield 26, 3) := by decide +kernel
theorem dX7_step_78 : decode cX7_step 78 = .ok (.getfield 110, 3) := by decide +kernel
theorem dX7_step_81 : decode cX7_step 81 = .ok (.ireturn, 1) := by decide +kernel
theorem dX7_move_0 : decode cX7_move 0 = .ok (.aload_n 0, 1) := by decide +kernel
theorem dX7_move_1 : decode cX7_move 1 = .ok (.iload_n 2, 1) := by decide +kernel
theorem dX7_move_2 : decode cX7_move 2 = .ok (.invokevirtual 124, 3) := by decide +kernel
theorem dX7_move_5 : decode cX7_move 5 = .ok (.astore 4, 2) := by decide +kernel
theorem dX7_move_7 : decode cX7_move 7 = .ok (.aload 4, 2) := by decide +kernel
theorem dX7_move_9 : decode cX7_move 9 = .ok (.ifnull 19, 3) := by decide +kernel
theorem dX7_move_12 : decode cX7_move 12 = .ok (.iload_n 3, 1) := by decide +kernel
theorem dX7_move_13 : decode cX7_move 13 = .ok (.iconst 1, 1) := by decide +kernel
theorem dX7_move_14 : decode cX7_move 14 = .ok (.if_icmp .lt 14, 3) := by decide +kernel
theorem dX7_move_17 : decode cX7_move 17 = .ok (.iload_n 3, 1) := by decide +kernel
theorem dX7_move_18 : decode cX7_move 18 = .ok (.aload_n 0, 1) := by decide +kernel
theorem dX7_move_19 : decode cX7_move 19 = .ok (.iload_n 1, 1) := by decide +kernel
theorem dX7_move_20 : decode cX7_move 20 = .ok (.aload 4, 2) := by decide +kernel
theorem dX7_move_22 : decode cX7_move 22 = .ok (.invokevirtual 128, 3) := by decide +kernel
theorem dX7_move_25 : decode cX7_move 25 = .ok (.if_icmp .le 5, 3) := by decide +kernel
theorem dX7_move_28 : decode cX7_move 28 = .ok (.iconst 0, 1) := by decide +kernel
theorem dX7_move_29 : decode cX7_move 29 = .ok (.ireturn, 1) := by decide +kernel
theorem dX7_move_30 : decode cX7_move 30 = .ok (.aload_n 0, 1) := by decide +kernel
theorem dX7_move_31 : decode cX7_move 31 = .ok (.getfield 26, 3) := by decide +kernel
theorem dX7_move_34 : decode cX7_move 34 = .ok (.iload_n 1, 1) := by decide +kernel
theorem dX7_move_35 : decode cX7_move 35 = .ok (.aload 4, 2) := by decide +kernel
theorem dX7_move_37 : decode cX7_move 37 = .ok (.iload_n 3, 1) := by decide +kernel
theorem dX7_move_38 : decode cX7_move 38 = .ok (.invokevirtual 132, 3) := by decide +kernel
theorem dX7_move_41 : decode cX7_move 41 = .ok (.aload 4, 2) := by decide +kernel
theorem dX7_move_43 : decode cX7_move 43 = .ok (.dup, 1) := by decide +kernel
theorem dX7_move_44 : decode cX7_move 44 = .ok (.getfield 121, 3) := by decide +kernel
theorem dX7_move_47 : decode cX7_move 47 = .ok (.iload_n 3, 1) := by decide +kernel
theorem dX7_move_48 : decode cX7_move 48 = .ok (.iadd, 1) := by decide +kernel
theorem dX7_move_49 : decode cX7_move 49 = .ok (.putfield 121, 3) := by decide +kernel
theorem dX7_move_52 : decode cX7_move 52 = .ok (.iconst 1, 1) := by decide +kernel
theorem dX7_move_53 : decode cX7_move 53 = .ok (.ireturn, 1) := by decide +kernel
theorem dX7_loan_0 : decode cX7_loan 0 = .ok (.aload_n 0, 1) := by decide +kernel
theorem dX7_loan_1 : decode cX7_loan 1 = .ok (.getfield 26, 3) := by decide +kernel
theorem dX7_loan_4 : decode cX7_loan 4 = .ok (.iload_n 1, 1) := by decide +kernel
theorem dX7_loan_5 : decode cX7_loan 5 = .ok (.invokevirtual 87, 3) := by decide +kernel
theorem dX7_loan_8 : decode cX7_loan 8 = .ok (.astore_n 3, 1) := by decide +kernel
theorem dX7_loan_9 : decode cX7_loan 9 = .ok (.aload_n 3, 1) := by decide +kernel
theorem dX7_loan_10 : decode cX7_loan 10 = .ok (.ifnull 18, 3) := by decide +kernel
theorem dX7_loan_13 : decode cX7_loan 13 = .ok (.iload_n 2, 1) := by decide +kernel
theorem dX7_loan_14 : decode cX7_loan 14 = .ok (.iconst 1, 1) := by decide +kernel
theorem dX7_loan_15 : decode cX7_loan 15 = .ok (.aload_n 3, 1) := by decide +kernel
theorem dX7_loan_16 : decode cX7_loan 16 = .ok (.getfield 136, 3) := by decide +kernel
theorem dX7_loan_19 : decode cX7_loan 19 = .ok (.invokevirtual 140, 3) := by decide +kernel
theorem dX7_loan_22 : decode cX7_loan 22 = .ok (.invokestatic 69, 3) := by decide +kernel
theorem dX7_loan_25 : decode cX7_loan 25 = .ok (.ifCond .ne 7, 3) := by decide +kernel
theorem dX7_loan_28 : decode cX7_loan 28 = .ok (.ldc2_w 145, 3) := by decide +kernel
theorem dX7_loan_31 : decode cX7_loan 31 = .ok (.lreturn, 1) := by decide +kernel
theorem dX7_loan_32 : decode cX7_loan 32 = .ok (.aload_n 3, 1) := by decide +kernel
theorem dX7_loan_33 : decode cX7_loan 33 = .ok (.iload_n 2, 1) := by decide +kernel
theorem dX7_loan_34 : decode cX7_loan 34 = .ok (.aload_n 0, 1) := by decide +kernel
theorem dX7_loan_35 : decode cX7_loan 35 = .ok (.getfield 19, 3) := by decide +kernel
theorem dX7_loan_38 : decode cX7_loan 38 = .ok (.iconst 4, 1) := by decide +kernel
theorem dX7_loan_39 : decode cX7_loan 39 = .ok (.invokevirtual 63, 3) := by decide +kernel
theorem dX7_loan_42 : decode cX7_loan 42 = .ok (.invokevirtual 147, 3) := by decide +kernel
theorem dX7_loan_45 : decode cX7_loan 45 = .ok (.aload_n 3, 1) := by decide +kernel
theorem dX7_loan_46 : decode cX7_loan 46 = .ok (.getfield 151, 3) := by decide +kernel
theorem dX7_loan_49 : decode cX7_loan 49 = .ok (.lreturn, 1) := by decide +kernel
theorem dX7_steal_0 : decode cX7_steal 0 = .ok (.aload_n 0, 1) := by decide +kernel
theorem dX7_steal_1 : decode cX7_steal 1 = .ok (.getfield 26, 3) := by decide +kernel
theorem dX7_steal_4 : decode cX7_steal 4 = .ok (.iload_n 1, 1) := by decide +kernel
theorem dX7_steal_5 : decode cX7_steal 5 = .ok (.invokevirtual 87, 3) := by decide +kernel
theorem dX7_steal_8 : decode cX7_steal 8 = .ok (.astore_n 3, 1) := by decide +kernel
theorem dX7_steal_9 : decode cX7_steal 9 = .ok (.aload_n 3, 1) := by decide +kernel
theorem dX7_steal_10 : decode cX7_steal 10 = .ok (.ifnull 18, 3) := by decide +kernel
theorem dX7_steal_13 : decode cX7_steal 13 = .ok (.iload_n 2, 1) := by decide +kernel
theorem dX7_steal_14 : decode cX7_steal 14 = .ok (.iconst 1, 1) := by decide +kernel
theorem dX7_steal_15 : decode cX7_steal 15 = .ok (.aload_n 3, 1) := by decide +kernel
theorem dX7_steal_16 : decode cX7_steal 16 = .ok (.getfield 136, 3) := by decide +kernel
theorem dX7_steal_19 : decode cX7_steal 19 = .ok (.invokevirtual 140, 3) := by decide +kernel
theorem dX7_steal_22 : decode cX7_steal 22 = .ok (.invokestatic 69, 3) := by decide +kernel
theorem dX7_steal_25 : decode cX7_steal 25 = .ok (.ifCond .ne 5, 3) := by decide +kernel
theorem dX7_steal_28 : decode cX7_steal 28 = .ok (.iconst 0, 1) := by decide +kernel
theorem dX7_steal_29 : decode cX7_steal 29 = .ok (.ireturn, 1) := by decide +kernel
theorem dX7_steal_30 : decode cX7_steal 30 = .ok (.aload_n 3, 1) := by decide +kernel
theorem dX7_steal_31 : decode cX7_steal 31 = .ok (.getfield 136, 3) := by decide +kernel
theorem dX7_steal_34 : decode cX7_steal 34 = .ok (.iload_n 2, 1) := by decide +kernel
theorem dX7_steal_35 : decode cX7_steal 35 = .ok (.invokevirtual 154, 3) := by decide +kernel
theorem dX7_steal_38 : decode cX7_steal 38 = .ok (.aload_n 3, 1) := by decide +kernel
theorem dX7_steal_39 : decode cX7_steal 39 = .ok (.dup, 1) := by decide +kernel
theorem dX7_steal_40 : decode cX7_steal 40 = .ok (.getfield 157, 3) := by decide +kernel
theorem dX7_steal_43 : decode cX7_steal 43 = .ok (.iload_n 2, 1) := by decide +kernel
theorem dX7_steal_44 : decode cX7_steal 44 = .ok (.i2l, 1) := by decide +kernel
theorem dX7_steal_45 : decode cX7_steal 45 = .ok (.ladd, 1) := by decide +kernel
theorem dX7_steal_46 : decode cX7_steal 46 = .ok (.putfield 157, 3) := by decide +kernel
theorem dX7_steal_49 : decode cX7_steal 49 = .ok (.iconst 1, 1) := by decide +kernel
theorem dX7_steal_50 : decode cX7_steal 50 = .ok (.ireturn, 1) := by decide +kernel
theorem dX7_measure_0 : decode cX7_measure 0 = .ok (.aload_n 0, 1) := by decide +kernel
theorem dX7_measure_1 : decode cX7_measure 1 = .ok (.getfield 26, 3) := by decide +kernel
theorem dX7_measure_4 : decode cX7_measure 4 = .ok (.iload_n 1, 1) := by decide +kernel
theorem dX7_measure_5 : decode cX7_measure 5 = .ok (.invokevirtual 87, 3) := by decide +kernel
theorem dX7_measure_8 : decode cX7_measure 8 = .ok (.astore_n 3, 1) := by decide +kernel
theorem dX7_measure_9 : decode cX7_measure 9 = .ok (.aload_n 3, 1) := by decide +kernel
theorem dX7_measure_10 : decode cX7_measure 10 = .ok (.ifnull 14, 3) := by decide +kernel
theorem dX7_measure_13 : decode cX7_measure 13 = .ok (.aload_n 3, 1) := by decide +kernel
theorem dX7_measure_14 : decode cX7_measure 14 = .ok (.getfield 136, 3) := by decide +kernel
theorem dX7_measure_17 : decode cX7_measure 17 = .ok (.iload_n 2, 1) := by decide +kernel
theorem dX7_measure_18 : decode cX7_measure 18 = .ok (.invokevirtual 160, 3) := by decide +kernel
theorem dX7_measure_21 : decode cX7_measure 21 = .ok (.ifCond .ne 5, 3) := by decide +kernel
theorem dX7_measure_24 : decode cX7_measure 24 = .ok (.iconst (-1), 1) := by decide +kernel
theorem dX7_measure_25 : decode cX7_measure 25 = .ok (.ireturn, 1) := by decide +kernel
theorem dX7_measure_26 : decode cX7_measure 26 = .ok (.aload_n 3, 1) := by decide +kernel
theorem dX7_measure_27 : decode cX7_measure 27 = .ok (.getfield 136, 3) := by decide +kernel
theorem dX7_measure_30 : decode cX7_measure 30 = .ok (.iload_n 2, 1) := by decide +kernel
theorem dX7_measure_31 : decode cX7_measure 31 = .ok (.invokevirtual 163, 3) := by decide +kernel
theorem dX7_measure_34 : decode cX7_measure 34 = .ok (.ireturn, 1) := by decide +kernel
theorem dX7_missing_0 : decode cX7_missing 0 = .ok (.aload_n 0, 1) := by decide +kernel
theorem dX7_missing_1 : decode cX7_missing 1 = .ok (.getfield 26, 3) := by decide +kernel
theorem dX7_missing_4 : decode cX7_missing 4 = .ok (.iload_n 1, 1) := by decide +kernel
theorem dX7_missing_5 : decode cX7_missing 5 = .ok (.invokevirtual 87, 3) := by decide +kernel
theorem dX7_missing_8 : decode cX7_missing 8 = .ok (.astore_n 3, 1) := by decide +kernel
theorem dX7_missing_9 : decode cX7_missing 9 = .ok (.aload_n 3, 1) := by decide +kernel
theorem dX7_missing_10 : decode cX7_missing 10 = .ok (.ifnull 12, 3) := by decide +kernel
theorem dX7_missing_13 : decode cX7_missing 13 = .ok (.iload_n 2, 1) := by decide +kernel
theorem dX7_missing_14 : decode cX7_missing 14 = .ok (.iconst 0, 1) := by decide +kernel
theorem dX7_missing_15 : decode cX7_missing 15 = .ok (.iconst 1, 1) := by decide +kernel
theorem dX7_missing_16 : decode cX7_missing 16 = .ok (.invokestatic 69, 3) := by decide +kernel
theorem dX7_missing_19 : decode cX7_missing 19 = .ok (.ifCond .ne 7, 3) := by decide +kernel
theorem dX7_missing_22 : decode cX7_missing 22 = .ok (.ldc2_w 145, 3) := by decide +kernel
theorem dX7_missing_25 : decode cX7_missing 25 = .ok (.lreturn, 1) := by decide +kernel
theorem dX7_missing_26 : decode cX7_missing 26 = .ok (.aload_n 3, 1) := by decide +kernel
theorem dX7_missing_27 : decode cX7_missing 27 = .ok (.getfield 136, 3) := by decide +kernel
theorem dX7_missing_30 : decode cX7_missing 30 = .ok (.invokevirtual 166, 3) := by decide +kernel
theorem dX7_missing_33 : decode cX7_missing 33 = .ok (.lstore 4, 2) := by decide +kernel
theorem dX7_missing_35 : decode cX7_missing 35 = .ok (.iload_n 2, 1) := by decide +kernel
theorem dX7_missing_36 : decode cX7_missing 36 = .ok (.ifCond .ne 8, 3) := by decide +kernel
theorem dX7_missing_39 : decode cX7_missing 39 = .ok (.lload 4, 2) := by decide +kernel
theorem dX7_missing_41 : decode cX7_missing 41 = .ok (.goto 13, 3) := by decide +kernel
theorem dX7_missing_44 : decode cX7_missing 44 = .ok (.lload 4, 2) := by decide +kernel
theorem dX7_missing_46 : decode cX7_missing 46 = .ok (.aload_n 3, 1) := by decide +kernel
theorem dX7_missing_47 : decode cX7_missing 47 = .ok (.getfield 136, 3) := by decide +kernel
theorem dX7_missing_50 : decode cX7_missing 50 = .ok (.invokevirtual 170, 3) := by decide +kernel
theorem dX7_missing_53 : decode cX7_missing 53 = .ok (.ladd, 1) := by decide +kernel
theorem dX7_missing_54 : decode cX7_missing 54 = .ok (.lreturn, 1) := by decide +kernel
theorem dX7_foretold_0 : decode cX7_foretold 0 = .ok (.iload_n 1, 1) := by decide +kernel
theorem dX7_foretold_1 : decode cX7_foretold 1 = .ok (.iconst 1, 1) := by decide +kernel
theorem dX7_foretold_2 : decode cX7_foretold 2 = .ok (.bipush 24, 2) := by decide +kernel
theorem dX7_foretold_4 : decode cX7_foretold 4 = .ok (.invokestatic 69, 3) := by decide +kernel
theorem dX7_foretold_7 : decode cX7_foretold 7 = .ok (.ifCond .ne 7, 3) := by decide +kernel
theorem dX7_foretold_10 : decode cX7_foretold 10 = .ok (.ldc2_w 145, 3) := by decide +kernel
theorem dX7_foretold_13 : decode cX7_foretold 13 = .ok (.lreturn, 1) := by decide +kernel
theorem dX7_foretold_14 : decode cX7_foretold 14 = .ok (.aload_n 0, 1) := by decide +kernel
theorem dX7_foretold_15 : decode cX7_foretold 15 = .ok (.getfield 30, 3) := by decide +kernel
theorem dX7_foretold_18 : decode cX7_foretold 18 = .ok (.aload_n 0, 1) := by decide +kernel
theorem dX7_foretold_19 : decode cX7_foretold 19 = .ok (.getfield 26, 3) := by decide +kernel
theorem dX7_foretold_22 : decode cX7_foretold 22 = .ok (.invokevirtual 173, 3) := by decide +kernel
theorem dX7_foretold_25 : decode cX7_foretold 25 = .ok (.aload_n 0, 1) := by decide +kernel
theorem dX7_foretold_26 : decode cX7_foretold 26 = .ok (.getfield 30, 3) := by decide +kernel
theorem dX7_foretold_29 : decode cX7_foretold 29 = .ok (.iload_n 1, 1) := by decide +kernel
theorem dX7_foretold_30 : decode cX7_foretold 30 = .ok (.aload_n 0, 1) := by decide +kernel
theorem dX7_foretold_31 : decode cX7_foretold 31 = .ok (.getfield 19, 3) := by decide +kernel
theorem dX7_foretold_34 : decode cX7_foretold 34 = .ok (.invokevirtual 113, 3) := by decide +kernel
theorem dX7_foretold_37 : decode cX7_foretold 37 = .ok (.lreturn, 1) := by decide +kernel
theorem dX7_best_0 : decode cX7_best 0 = .ok (.aload_n 0, 1) := by decide +kernel
theorem dX7_best_1 : decode cX7_best 1 = .ok (.getfield 26, 3) := by decide +kernel
theorem dX7_best_4 : decode cX7_best 4 = .ok (.iload_n 1, 1) := by decide +kernel
theorem dX7_best_5 : decode cX7_best 5 = .ok (.invokevirtual 87, 3) := by decide +kernel
theorem dX7_best_8 : decode cX7_best 8 = .ok (.ifnull 13, 3) := by decide +kernel
theorem dX7_best_11 : decode cX7_best 11 = .ok (.iload_n 2, 1) := by decide +kernel
theorem dX7_best_12 : decode cX7_best 12 = .ok (.iconst 1, 1) := by decide +kernel
theorem dX7_best_13 : decode cX7_best 13 = .ok (.bipush 24, 2) := by decide +kernel
theorem dX7_best_15 : decode cX7_best 15 = .ok (.invokestatic 69, 3) := by decide +kernel
theorem dX7_best_18 : decode cX7_best 18 = .ok (.ifCond .ne 5, 3) := by decide +kernel
theorem dX7_best_21 : decode cX7_best 21 = .ok (.iconst (-1), 1) := by decide +kernel
theorem dX7_best_22 : decode cX7_best 22 = .ok (.ireturn, 1) := by decide +kernel
theorem dX7_best_23 : decode cX7_best 23 = .ok (.aload_n 0, 1) := by decide +kernel
theorem dX7_best_24 : decode cX7_best 24 = .ok (.getfield 30, 3) := by decide +kernel
theorem dX7_best_27 : decode cX7_best 27 = .ok (.aload_n 0, 1) := by decide +kernel
theorem dX7_best_28 : decode cX7_best 28 = .ok (.getfield 26, 3) := by decide +kernel
theorem dX7_best_31 : decode cX7_best 31 = .ok (.invokevirtual 173, 3) := by decide +kernel
theorem dX7_best_34 : decode cX7_best 34 = .ok (.aload_n 0, 1) := by decide +kernel
theorem dX7_best_35 : decode cX7_best 35 = .ok (.getfield 30, 3) := by decide +kernel
theorem dX7_best_38 : decode cX7_best 38 = .ok (.iload_n 2, 1) := by decide +kernel
theorem dX7_best_39 : decode cX7_best 39 = .ok (.aload_n 0, 1) := by decide +kernel
theorem dX7_best_40 : decode cX7_best 40 = .ok (.getfield 19, 3) := by decide +kernel
theorem dX7_best_43 : decode cX7_best 43 = .ok (.invokevirtual 113, 3) := by decide +kernel
theorem dX7_best_46 : decode cX7_best 46 = .ok (.lstore_n 3, 1) := by decide +kernel
theorem dX7_best_47 : decode cX7_best 47 = .ok (.iconst (-1), 1) := by decide +kernel
theorem dX7_best_48 : decode cX7_best 48 = .ok (.istore 5, 2) := by decide +kernel
theorem dX7_best_50 : decode cX7_best 50 = .ok (.iconst 0, 1) := by decide +kernel
theorem dX7_best_51 : decode cX7_best 51 = .ok (.istore 6, 2) := by decide +kernel
theorem dX7_best_53 : decode cX7_best 53 = .ok (.iload 6, 2) := by decide +kernel
theorem dX7_best_55 : decode cX7_best 55 = .ok (.aload_n 0, 1) := by decide +kernel
theorem dX7_best_56 : decode cX7_best 56 = .ok (.getfield 36, 3) := by decide +kernel
theorem dX7_best_59 : decode cX7_best 59 = .ok (.invokevirtual 84, 3) := by decide +kernel
theorem dX7_best_62 : decode cX7_best 62 = .ok (.if_icmp .ge 95, 3) := by decide +kernel
theorem dX7_best_65 : decode cX7_best 65 = .ok (.lload_n 3, 1) := by decide +kernel
theorem dX7_best_66 : decode cX7_best 66 = .ok (.lconst 0, 1) := by decide +kernel
theorem dX7_best_67 : decode cX7_best 67 = .ok (.lcmp, 1) := by decide +kernel
theorem dX7_best_68 : decode cX7_best 68 = .ok (.ifCond .le 89, 3) := by decide +kernel
theorem dX7_best_71 : decode cX7_best 71 = .ok (.aload_n 0, 1) := by decide +kernel
theorem dX7_best_72 : decode cX7_best 72 = .ok (.getfield 36, 3) := by decide +kernel
theorem dX7_best_75 : decode cX7_best 75 = .ok (.iload 6, 2) := by decide +kernel
theorem dX7_best_77 : decode cX7_best 77 = .ok (.invokevirtual 117, 3) := by decide +kernel
theorem dX7_best_80 : decode cX7_best 80 = .ok (.checkcast 91, 3) := by decide +kernel
theorem dX7_best_83 : decode cX7_best 83 = .ok (.astore 7, 2) := by decide +kernel
theorem dX7_best_85 : decode cX7_best 85 = .ok (.aload_n 0, 1) := by decide +kernel
theorem dX7_best_86 : decode cX7_best 86 = .ok (.iload_n 1, 1) := by decide +kernel
theorem dX7_best_87 : decode cX7_best 87 = .ok (.aload 7, 2) := by decide +kernel
theorem dX7_best_89 : decode cX7_best 89 = .ok (.invokevirtual 128, 3) := by decide +kernel
theorem dX7_best_92 : decode cX7_best 92 = .ok (.istore 8, 2) := by decide +kernel
theorem dX7_best_94 : decode cX7_best 94 = .ok (.iload 8, 2) := by decide +kernel
theorem dX7_best_96 : decode cX7_best 96 = .ok (.iconst 1, 1) := by decide +kernel
theorem dX7_best_97 : decode cX7_best 97 = .ok (.if_icmp .lt 54, 3) := by decide +kernel
theorem dX7_best_100 : decode cX7_best 100 = .ok (.aload_n 0, 1) := by decide +kernel
theorem dX7_best_101 : decode cX7_best 101 = .ok (.getfield 30, 3) := by decide +kernel
theorem dX7_best_104 : decode cX7_best 104 = .ok (.aload_n 0, 1) := by decide +kernel
theorem dX7_best_105 : decode cX7_best 105 = .ok (.getfield 26, 3) := by decide +kernel
theorem dX7_best_108 : decode cX7_best 108 = .ok (.invokevirtual 173, 3) := by decide +kernel
theorem dX7_best_111 : decode cX7_best 111 = .ok (.aload_n 0, 1) := by decide +kernel
theorem dX7_best_112 : decode cX7_best 112 = .ok (.getfield 30, 3) := by decide +kernel
theorem dX7_best_115 : decode cX7_best 115 = .ok (.iload_n 1, 1) := by decide +kernel
theorem dX7_best_116 : decode cX7_best 116 = .ok (.aload 7, 2) := by decide +kernel
theorem dX7_best_118 : decode cX7_best 118 = .ok (.iload 8, 2) := by decide +kernel
theorem dX7_best_120 : decode cX7_best 120 = .ok (.invokevirtual 132, 3) := by decide +kernel
theorem dX7_best_123 : decode cX7_best 123 = .ok (.aload_n 0, 1) := by decide +kernel
theorem dX7_best_124 : decode cX7_best 124 = .ok (.getfield 30, 3) := by decide +kernel
theorem dX7_best_127 : decode cX7_best 127 = .ok (.iload_n 2, 1) := by decide +kernel
theorem dX7_best_128 : decode cX7_best 128 = .ok (.aload_n 0, 1) := by decide +kernel
theorem dX7_best_129 : decode cX7_best 129 = .ok (.getfield 19, 3) := by decide +kernel
theorem dX7_best_132 : decode cX7_best 132 = .ok (.invokevirtual 113, 3) := by decide +kernel
theorem dX7_best_135 : decode cX7_best 135 = .ok (.lstore 9, 2) := by decide +kernel
theorem dX7_best_137 : decode cX7_best 137 = .ok (.lload 9, 2) := by decide +kernel
theorem dX7_best_139 : decode cX7_best 139 = .ok (.lload_n 3, 1) := by decide +kernel
theorem dX7_best_140 : decode cX7_best 140 = .ok (.lcmp, 1) := by decide +kernel
theorem dX7_best_141 : decode cX7_best 141 = .ok (.ifCond .ge 10, 3) := by decide +kernel
theorem dX7_best_144 : decode cX7_best 144 = .ok (.lload 9, 2) := by decide +kernel
theorem dX7_best_146 : decode cX7_best 146 = .ok (.lstore_n 3, 1) := by decide +kernel
theorem dX7_best_147 : decode cX7_best 147 = .ok (.iload 6, 2) := by decide +kernel
theorem dX7_best_149 : decode cX7_best 149 = .ok (.istore 5, 2) := by decide +kernel
theorem dX7_best_151 : decode cX7_best 151 = .ok (.iinc 6 1, 3) := by decide +kernel
theorem dX7_best_154 : decode cX7_best 154 = .ok (.goto (-101), 3) := by decide +kernel
theorem dX7_best_157 : decode cX7_best 157 = .ok (.iload 5, 2) := by decide +kernel
theorem dX7_best_159 : decode cX7_best 159 = .ok (.ireturn, 1) := by decide +kernel
theorem dX7_look_0 : decode cX7_look 0 = .ok (.aload_n 0, 1) := by decide +kernel
theorem dX7_look_1 : decode cX7_look 1 = .ok (.getfield 26, 3) := by decide +kernel
theorem dX7_look_4 : decode cX7_look 4 = .ok (.iload_n 1, 1) := by decide +kernel
theorem dX7_look_5 : decode cX7_look 5 = .ok (.invokevirtual 87, 3) := by decide +kernel
theorem dX7_look_8 : decode cX7_look 8 = .ok (.astore_n 3, 1) := by decide +kernel
theorem dX7_look_9 : decode cX7_look 9 = .ok (.aload_n 3, 1) := by decide +kernel
theorem dX7_look_10 : decode cX7_look 10 = .ok (.ifnonnull 7, 3) := by decide +kernel
theorem dX7_look_13 : decode cX7_look 13 = .ok (.ldc2_w 145, 3) := by decide +kernel
theorem dX7_look_16 : decode cX7_look 16 = .ok (.lreturn, 1) := by decide +kernel
theorem dX7_look_17 : decode cX7_look 17 = .ok (.iload_n 2, 1) := by decide +kernel
theorem dX7_look_18 : decode cX7_look 18 = .ok (.tableswitch 148 0 12 #[66, 72, 77, 86, 92, 101, 110, 118, 123, 128, 133, 138, 143], 66) := by decide +kernel
theorem dX7_look_84 : decode cX7_look 84 = .ok (.aload_n 3, 1) := by decide +kernel
theorem dX7_look_85 : decode cX7_look 85 = .ok (.getfield 177, 3) := by decide +kernel
theorem dX7_look_88 : decode cX7_look 88 = .ok (.i2l, 1) := by decide +kernel
theorem dX7_look_89 : decode cX7_look 89 = .ok (.lreturn, 1) := by decide +kernel
theorem dX7_look_90 : decode cX7_look 90 = .ok (.aload_n 3, 1) := by decide +kernel
theorem dX7_look_91 : decode cX7_look 91 = .ok (.getfield 180, 3) := by decide +kernel
theorem dX7_look_94 : decode cX7_look 94 = .ok (.lreturn, 1) := by decide +kernel
theorem dX7_look_95 : decode cX7_look 95 = .ok (.aload_n 3, 1) := by decide +kernel
theorem dX7_look_96 : decode cX7_look 96 = .ok (.getfield 136, 3) := by decide +kernel
theorem dX7_look_99 : decode cX7_look 99 = .ok (.invokevirtual 183, 3) := by decide +kernel
theorem dX7_look_102 : decode cX7_look 102 = .ok (.i2l, 1) := by decide +kernel
theorem dX7_look_103 : decode cX7_look 103 = .ok (.lreturn, 1) := by decide +kernel
theorem dX7_look_104 : decode cX7_look 104 = .ok (.aload_n 3, 1) := by decide +kernel
theorem dX7_look_105 : decode cX7_look 105 = .ok (.invokevirtual 186, 3) := by decide +kernel
theorem dX7_look_108 : decode cX7_look 108 = .ok (.i2l, 1) := by decide +kernel
theorem dX7_look_109 : decode cX7_look 109 = .ok (.lreturn, 1) := by decide +kernel
theorem dX7_look_110 : decode cX7_look 110 = .ok (.aload_n 3, 1) := by decide +kernel
theorem dX7_look_111 : decode cX7_look 111 = .ok (.getfield 136, 3) := by decide +kernel
theorem dX7_look_114 : decode cX7_look 114 = .ok (.invokevirtual 189, 3) := by decide +kernel
theorem dX7_look_117 : decode cX7_look 117 = .ok (.i2l, 1) := by decide +kernel
theorem dX7_look_118 : decode cX7_look 118 = .ok (.lreturn, 1) := by decide +kernel
theorem dX7_look_119 : decode cX7_look 119 = .ok (.aload_n 3, 1) := by decide +kernel
theorem dX7_look_120 : decode cX7_look 120 = .ok (.getfield 136, 3) := by decide +kernel
theorem dX7_look_123 : decode cX7_look 123 = .ok (.invokevirtual 140, 3) := by decide +kernel
theorem dX7_look_126 : decode cX7_look 126 = .ok (.i2l, 1) := by decide +kernel
theorem dX7_look_127 : decode cX7_look 127 = .ok (.lreturn, 1) := by decide +kernel
theorem dX7_look_128 : decode cX7_look 128 = .ok (.aload_n 3, 1) := by decide +kernel
theorem dX7_look_129 : decode cX7_look 129 = .ok (.getfield 136, 3) := by decide +kernel
theorem dX7_look_132 : decode cX7_look 132 = .ok (.invokevirtual 192, 3) := by decide +kernel
theorem dX7_look_135 : decode cX7_look 135 = .ok (.lreturn, 1) := by decide +kernel
theorem dX7_look_136 : decode cX7_look 136 = .ok (.aload_n 3, 1) := by decide +kernel
theorem dX7_look_137 : decode cX7_look 137 = .ok (.getfield 195, 3) := by decide +kernel
theorem dX7_look_140 : decode cX7_look 140 = .ok (.lreturn, 1) := by decide +kernel
theorem dX7_look_141 : decode cX7_look 141 = .ok (.aload_n 3, 1) := by decide +kernel
theorem dX7_look_142 : decode cX7_look 142 = .ok (.getfield 198, 3) := by decide +kernel
theorem dX7_look_145 : decode cX7_look 145 = .ok (.lreturn, 1) := by decide +kernel
theorem dX7_look_146 : decode cX7_look 146 = .ok (.aload_n 3, 1) := by decide +kernel
theorem dX7_look_147 : decode cX7_look 147 = .ok (.getfield 151, 3) := by decide +kernel
theorem dX7_look_150 : decode cX7_look 150 = .ok (.lreturn, 1) := by decide +kernel
theorem dX7_look_151 : decode cX7_look 151 = .ok (.aload_n 3, 1) := by decide +kernel
theorem dX7_look_152 : decode cX7_look 152 = .ok (.getfield 201, 3) := by decide +kernel
theorem dX7_look_155 : decode cX7_look 155 = .ok (.lreturn, 1) := by decide +kernel
theorem dX7_look_156 : decode cX7_look 156 = .ok (.aload_n 3, 1) := by decide +kernel
theorem dX7_look_157 : decode cX7_look 157 = .ok (.getfield 204, 3) := by decide +kernel
theorem dX7_look_160 : decode cX7_look 160 = .ok (.lreturn, 1) := by decide +kernel
theorem dX7_look_161 : decode cX7_look 161 = .ok (.aload_n 3, 1) := by decide +kernel
theorem dX7_look_162 : decode cX7_look 162 = .ok (.getfield 157, 3) := by decide +kernel
theorem dX7_look_165 : decode cX7_look 165 = .ok (.lreturn, 1) := by decide +kernel
theorem dX7_look_166 : decode cX7_look 166 = .ok (.ldc2_w 145, 3) := by decide +kernel
theorem dX7_look_169 : decode cX7_look 169 = .ok (.lreturn, 1) := by decide +kernel
theorem dX7_lot_0 : decode cX7_lot 0 = .ok (.aload_n 0, 1) := by decide +kernel
theorem dX7_lot_1 : decode cX7_lot 1 = .ok (.getfield 26, 3) := by decide +kernel
theorem dX7_lot_4 : decode cX7_lot 4 = .ok (.iload_n 1, 1) := by decide +kernel
theorem dX7_lot_5 : decode cX7_lot 5 = .ok (.invokevirtual 87, 3) := by decide +kernel
theorem dX7_lot_8 : decode cX7_lot 8 = .ok (.astore 4, 2) := by decide +kernel
theorem dX7_lot_10 : decode cX7_lot 10 = .ok (.aload 4, 2) := by decide +kernel
theorem dX7_lot_12 : decode cX7_lot 12 = .ok (.ifnull 15, 3) := by decide +kernel
theorem dX7_lot_15 : decode cX7_lot 15 = .ok (.aload 4, 2) := by decide +kernel
theorem dX7_lot_17 : decode cX7_lot 17 = .ok (.getfield 136, 3) := by decide +kernel
theorem dX7_lot_20 : decode cX7_lot 20 = .ok (.iload_n 2, 1) := by decide +kernel
theorem dX7_lot_21 : decode cX7_lot 21 = .ok (.invokevirtual 160, 3) := by decide +kernel
theorem dX7_lot_24 : decode cX7_lot 24 = .ok (.ifCond .ne 5, 3) := by decide +kernel
theorem dX7_lot_27 : decode cX7_lot 27 = .ok (.iconst (-1), 1) := by decide +kernel
theorem dX7_lot_28 : decode cX7_lot 28 = .ok (.ireturn, 1) := by decide +kernel
theorem dX7_lot_29 : decode cX7_lot 29 = .ok (.iload_n 3, 1) := by decide +kernel
theorem dX7_lot_30 : decode cX7_lot 30 = .ok (.tableswitch 56 0 2 #[26, 36, 46], 26) := by decide +kernel
theorem dX7_lot_56 : decode cX7_lot 56 = .ok (.aload 4, 2) := by decide +kernel
theorem dX7_lot_58 : decode cX7_lot 58 = .ok (.getfield 136, 3) := by decide +kernel
theorem dX7_lot_61 : decode cX7_lot 61 = .ok (.iload_n 2, 1) := by decide +kernel
theorem dX7_lot_62 : decode cX7_lot 62 = .ok (.invokevirtual 207, 3) := by decide +kernel
theorem dX7_lot_65 : decode cX7_lot 65 = .ok (.ireturn, 1) := by decide +kernel
theorem dX7_lot_66 : decode cX7_lot 66 = .ok (.aload 4, 2) := by decide +kernel
theorem dX7_lot_68 : decode cX7_lot 68 = .ok (.getfield 136, 3) := by decide +kernel
theorem dX7_lot_71 : decode cX7_lot 71 = .ok (.iload_n 2, 1) := by decide +kernel
theorem dX7_lot_72 : decode cX7_lot 72 = .ok (.invokevirtual 210, 3) := by decide +kernel
theorem dX7_lot_75 : decode cX7_lot 75 = .ok (.ireturn, 1) := by decide +kernel
theorem dX7_lot_76 : decode cX7_lot 76 = .ok (.aload 4, 2) := by decide +kernel
theorem dX7_lot_78 : decode cX7_lot 78 = .ok (.getfield 136, 3) := by decide +kernel
theorem dX7_lot_81 : decode cX7_lot 81 = .ok (.iload_n 2, 1) := by decide +kernel
theorem dX7_lot_82 : decode cX7_lot 82 = .ok (.invokevirtual 213, 3) := by decide +kernel
theorem dX7_lot_85 : decode cX7_lot 85 = .ok (.ireturn, 1) := by decide +kernel
theorem dX7_lot_86 : decode cX7_lot 86 = .ok (.iconst (-1), 1) := by decide +kernel
theorem dX7_lot_87 : decode cX7_lot 87 = .ok (.ireturn, 1) := by decide +kernel
theorem dX7_count_0 : decode cX7_count 0 = .ok (.iload_n 1, 1) := by decide +kernel
theorem dX7_count_1 : decode cX7_count 1 = .ok (.tableswitch 103 0 6 #[43, 52, 61, 70, 78, 86, 95], 43) := by decide +kernel
theorem dX7_count_44 : decode cX7_count 44 = .ok (.aload_n 0, 1) := by decide +kernel
theorem dX7_count_45 : decode cX7_count 45 = .ok (.getfield 26, 3) := by decide +kernel
theorem dX7_count_48 : decode cX7_count 48 = .ok (.getfield 110, 3) := by decide +kernel
theorem dX7_count_51 : decode cX7_count 51 = .ok (.i2l, 1) := by decide +kernel
theorem dX7_count_52 : decode cX7_count 52 = .ok (.lreturn, 1) := by decide +kernel
theorem dX7_count_53 : decode cX7_count 53 = .ok (.aload_n 0, 1) := by decide +kernel
theorem dX7_count_54 : decode cX7_count 54 = .ok (.getfield 26, 3) := by decide +kernel
theorem dX7_count_57 : decode cX7_count 57 = .ok (.invokevirtual 66, 3) := by decide +kernel
theorem dX7_count_60 : decode cX7_count 60 = .ok (.i2l, 1) := by decide +kernel
theorem dX7_count_61 : decode cX7_count 61 = .ok (.lreturn, 1) := by decide +kernel
theorem dX7_count_62 : decode cX7_count 62 = .ok (.aload_n 0, 1) := by decide +kernel
theorem dX7_count_63 : decode cX7_count 63 = .ok (.getfield 36, 3) := by decide +kernel
theorem dX7_count_66 : decode cX7_count 66 = .ok (.invokevirtual 84, 3) := by decide +kernel
theorem dX7_count_69 : decode cX7_count 69 = .ok (.i2l, 1) := by decide +kernel
theorem dX7_count_70 : decode cX7_count 70 = .ok (.lreturn, 1) := by decide +kernel
theorem dX7_count_71 : decode cX7_count 71 = .ok (.aload_n 0, 1) := by decide +kernel
theorem dX7_count_72 : decode cX7_count 72 = .ok (.getfield 26, 3) := by decide +kernel
theorem dX7_count_75 : decode cX7_count 75 = .ok (.getfield 102, 3) := by decide +kernel
theorem dX7_count_78 : decode cX7_count 78 = .ok (.lreturn, 1) := by decide +kernel
theorem dX7_count_79 : decode cX7_count 79 = .ok (.aload_n 0, 1) := by decide +kernel
theorem dX7_count_80 : decode cX7_count 80 = .ok (.getfield 26, 3) := by decide +kernel
theorem dX7_count_83 : decode cX7_count 83 = .ok (.invokevirtual 216, 3) := by decide +kernel
theorem dX7_count_86 : decode cX7_count 86 = .ok (.lreturn, 1) := by decide +kernel
theorem dX7_count_87 : decode cX7_count 87 = .ok (.aload_n 0, 1) := by decide +kernel
theorem dX7_count_88 : decode cX7_count 88 = .ok (.getfield 10, 3) := by decide +kernel
theorem dX7_count_91 : decode cX7_count 91 = .ok (.invokevirtual 48, 3) := by decide +kernel
theorem dX7_count_94 : decode cX7_count 94 = .ok (.i2l, 1) := by decide +kernel
theorem dX7_count_95 : decode cX7_count 95 = .ok (.lreturn, 1) := by decide +kernel
theorem dX7_count_96 : decode cX7_count 96 = .ok (.aload_n 0, 1) := by decide +kernel
theorem dX7_count_97 : decode cX7_count 97 = .ok (.getfield 26, 3) := by decide +kernel
theorem dX7_count_100 : decode cX7_count 100 = .ok (.invokevirtual 219, 3) := by decide +kernel
theorem dX7_count_103 : decode cX7_count 103 = .ok (.lreturn, 1) := by decide +kernel
theorem dX7_count_104 : decode cX7_count 104 = .ok (.aload_n 0, 1) := by decide +kernel
theorem dX7_count_105 : decode cX7_count 105 = .ok (.iload_n 1, 1) := by decide +kernel
theorem dX7_count_106 : decode cX7_count 106 = .ok (.invokevirtual 222, 3) := by decide +kernel
theorem dX7_count_109 : decode cX7_count 109 = .ok (.lreturn, 1) := by decide +kernel
theorem dX7_takenByRoad_0 : decode cX7_takenByRoad 0 = .ok (.iload_n 1, 1) := by decide +kernel
theorem dX7_takenByRoad_1 : decode cX7_takenByRoad 1 = .ok (.bipush 10, 2) := by decide +kernel
theorem dX7_takenByRoad_3 : decode cX7_takenByRoad 3 = .ok (.if_icmp .ge 7, 3) := by decide +kernel
theorem dX7_takenByRoad_6 : decode cX7_takenByRoad 6 = .ok (.ldc2_w 145, 3) := by decide +kernel
theorem dX7_takenByRoad_9 : decode cX7_takenByRoad 9 = .ok (.lreturn, 1) := by decide +kernel
theorem dX7_takenByRoad_10 : decode cX7_takenByRoad 10 = .ok (.aload_n 0, 1) := by decide +kernel
theorem dX7_takenByRoad_11 : decode cX7_takenByRoad 11 = .ok (.iload_n 1, 1) := by decide +kernel
theorem dX7_takenByRoad_12 : decode cX7_takenByRoad 12 = .ok (.bipush 10, 2) := by decide +kernel
theorem dX7_takenByRoad_14 : decode cX7_takenByRoad 14 = .ok (.isub, 1) := by decide +kernel
theorem dX7_takenByRoad_15 : decode cX7_takenByRoad 15 = .ok (.invokevirtual 124, 3) := by decide +kernel
theorem dX7_takenByRoad_18 : decode cX7_takenByRoad 18 = .ok (.astore_n 2, 1) := by decide +kernel
theorem dX7_takenByRoad_19 : decode cX7_takenByRoad 19 = .ok (.aload_n 2, 1) := by decide +kernel
theorem dX7_takenByRoad_20 : decode cX7_takenByRoad 20 = .ok (.ifnonnull 9, 3) := by decide +kernel
theorem dX7_takenByRoad_23 : decode cX7_takenByRoad 23 = .ok (.ldc2_w 145, 3) := by decide +kernel
theorem dX7_takenByRoad_26 : decode cX7_takenByRoad 26 = .ok (.goto 8, 3) := by decide +kernel
theorem dX7_takenByRoad_29 : decode cX7_takenByRoad 29 = .ok (.aload_n 2, 1) := by decide +kernel
theorem dX7_takenByRoad_30 : decode cX7_takenByRoad 30 = .ok (.getfield 121, 3) := by decide +kernel
theorem dX7_takenByRoad_33 : decode cX7_takenByRoad 33 = .ok (.i2l, 1) := by decide +kernel
theorem dX7_takenByRoad_34 : decode cX7_takenByRoad 34 = .ok (.lreturn, 1) := by decide +kernel
theorem dX7_roadAt_0 : decode cX7_roadAt 0 = .ok (.iload_n 1, 1) := by decide +kernel
theorem dX7_roadAt_1 : decode cX7_roadAt 1 = .ok (.ifCond .lt 14, 3) := by decide +kernel
theorem dX7_roadAt_4 : decode cX7_roadAt 4 = .ok (.iload_n 1, 1) := by decide +kernel
theorem dX7_roadAt_5 : decode cX7_roadAt 5 = .ok (.aload_n 0, 1) := by decide +kernel
theorem dX7_roadAt_6 : decode cX7_roadAt 6 = .ok (.getfield 36, 3) := by decide +kernel
theorem dX7_roadAt_9 : decode cX7_roadAt 9 = .ok (.invokevirtual 84, 3) := by decide +kernel
theorem dX7_roadAt_12 : decode cX7_roadAt 12 = .ok (.if_icmp .lt 7, 3) := by decide +kernel
theorem dX7_roadAt_15 : decode cX7_roadAt 15 = .ok (.aconst_null, 1) := by decide +kernel
theorem dX7_roadAt_16 : decode cX7_roadAt 16 = .ok (.goto 14, 3) := by decide +kernel
theorem dX7_roadAt_19 : decode cX7_roadAt 19 = .ok (.aload_n 0, 1) := by decide +kernel
theorem dX7_roadAt_20 : decode cX7_roadAt 20 = .ok (.getfield 36, 3) := by decide +kernel
theorem dX7_roadAt_23 : decode cX7_roadAt 23 = .ok (.iload_n 1, 1) := by decide +kernel
theorem dX7_roadAt_24 : decode cX7_roadAt 24 = .ok (.invokevirtual 117, 3) := by decide +kernel
theorem dX7_roadAt_27 : decode cX7_roadAt 27 = .ok (.checkcast 91, 3) := by decide +kernel
theorem dX7_roadAt_30 : decode cX7_roadAt 30 = .ok (.areturn, 1) := by decide +kernel
theorem dX7_movable_0 : decode cX7_movable 0 = .ok (.aload_n 0, 1) := by decide +kernel
theorem dX7_movable_1 : decode cX7_movable 1 = .ok (.getfield 26, 3) := by decide +kernel
theorem dX7_movable_4 : decode cX7_movable 4 = .ok (.iload_n 1, 1) := by decide +kernel
theorem dX7_movable_5 : decode cX7_movable 5 = .ok (.invokevirtual 87, 3) := by decide +kernel
theorem dX7_movable_8 : decode cX7_movable 8 = .ok (.astore_n 3, 1) := by decide +kernel
theorem dX7_movable_9 : decode cX7_movable 9 = .ok (.aload_n 3, 1) := by decide +kernel
theorem dX7_movable_10 : decode cX7_movable 10 = .ok (.ifnull 21, 3) := by decide +kernel
theorem dX7_movable_13 : decode cX7_movable 13 = .ok (.aload_n 2, 1) := by decide +kernel
theorem dX7_movable_14 : decode cX7_movable 14 = .ok (.iload_n 1, 1) := by decide +kernel
theorem dX7_movable_15 : decode cX7_movable 15 = .ok (.invokevirtual 226, 3) := by decide +kernel
theorem dX7_movable_18 : decode cX7_movable 18 = .ok (.ifCond .eq 13, 3) := by decide +kernel
theorem dX7_movable_21 : decode cX7_movable 21 = .ok (.aload_n 0, 1) := by decide +kernel
theorem dX7_movable_22 : decode cX7_movable 22 = .ok (.getfield 26, 3) := by decide +kernel
theorem dX7_movable_25 : decode cX7_movable 25 = .ok (.invokevirtual 229, 3) := by decide +kernel
theorem dX7_movable_28 : decode cX7_movable 28 = .ok (.ifCond .ne 5, 3) := by decide +kernel
theorem dX7_movable_31 : decode cX7_movable 31 = .ok (.iconst 0, 1) := by decide +kernel
theorem dX7_movable_32 : decode cX7_movable 32 = .ok (.ireturn, 1) := by decide +kernel
theorem dX7_movable_33 : decode cX7_movable 33 = .ok (.aload_n 2, 1) := by decide +kernel
theorem dX7_movable_34 : decode cX7_movable 34 = .ok (.getfield 233, 3) := by decide +kernel
theorem dX7_movable_37 : decode cX7_movable 37 = .ok (.aload_n 2, 1) := by decide +kernel
theorem dX7_movable_38 : decode cX7_movable 38 = .ok (.getfield 121, 3) := by decide +kernel
theorem dX7_movable_41 : decode cX7_movable 41 = .ok (.isub, 1) := by decide +kernel
theorem dX7_movable_42 : decode cX7_movable 42 = .ok (.aload_n 3, 1) := by decide +kernel
theorem dX7_movable_43 : decode cX7_movable 43 = .ok (.getfield 136, 3) := by decide +kernel
theorem dX7_movable_46 : decode cX7_movable 46 = .ok (.invokevirtual 140, 3) := by decide +kernel
theorem dX7_movable_49 : decode cX7_movable 49 = .ok (.invokestatic 236, 3) := by decide +kernel
theorem dX7_movable_52 : decode cX7_movable 52 = .ok (.ireturn, 1) := by decide +kernel
theorem dX7_isWithin_0 : decode cX7_isWithin 0 = .ok (.iload_n 0, 1) := by decide +kernel
theorem dX7_isWithin_1 : decode cX7_isWithin 1 = .ok (.iload_n 1, 1) := by decide +kernel
theorem dX7_isWithin_2 : decode cX7_isWithin 2 = .ok (.if_icmp .lt 12, 3) := by decide +kernel
theorem dX7_isWithin_5 : decode cX7_isWithin 5 = .ok (.iload_n 0, 1) := by decide +kernel
theorem dX7_isWithin_6 : decode cX7_isWithin 6 = .ok (.iload_n 2, 1) := by decide +kernel
theorem dX7_isWithin_7 : decode cX7_isWithin 7 = .ok (.if_icmp .gt 7, 3) := by decide +kernel
theorem dX7_isWithin_10 : decode cX7_isWithin 10 = .ok (.iconst 1, 1) := by decide +kernel
theorem dX7_isWithin_11 : decode cX7_isWithin 11 = .ok (.goto 4, 3) := by decide +kernel
theorem dX7_isWithin_14 : decode cX7_isWithin 14 = .ok (.iconst 0, 1) := by decide +kernel
theorem dX7_isWithin_15 : decode cX7_isWithin 15 = .ok (.ireturn, 1) := by decide +kernel
end
section
theorem dJ9_max_7cf53_0 : decode cJ9_max_7cf53 0 = .ok (.iload_n 0, 1) := by decide +kernel
theorem dJ9_max_7cf53_1 : decode cJ9_max_7cf53 1 = .ok (.iload_n 1, 1) := by decide +kernel
theorem dJ9_max_7cf53_2 : decode cJ9_max_7cf53 2 = .ok (.if_icmp .lt 7, 3) := by decide +kernel
theorem dJ9_max_7cf53_5 : decode cJ9_max_7cf53 5 = .ok (.iload_n 0, 1) := by decide +kernel
theorem dJ9_max_7cf53_6 : decode cJ9_max_7cf53 6 = .ok (.goto 4, 3) := by decide +kernel
theorem dJ9_max_7cf53_9 : decode cJ9_max_7cf53 9 = .ok (.iload_n 1, 1) := by decide +kernel
theorem dJ9_max_7cf53_10 : decode cJ9_max_7cf53 10 = .ok (.ireturn, 1) := by decide +kernel
theorem dJ9_min_7cf53_0 : decode cJ9_min_7cf53 0 = .ok (.iload_n 0, 1) := by decide +kernel
theorem dJ9_min_7cf53_1 : decode cJ9_min_7cf53 1 = .ok (.iload_n 1, 1) := by decide +kernel
theorem dJ9_min_7cf53_2 : decode cJ9_min_7cf53 2 = .ok (.if_icmp .gt 7, 3) := by decide +kernel
theorem dJ9_min_7cf53_5 : decode cJ9_min_7cf53 5 = .ok (.iload_n 0, 1) := by decide +kernel
theorem dJ9_min_7cf53_6 : decode cJ9_min_7cf53 6 = .ok (.goto 4, 3) := by decide +kernel
theorem dJ9_min_7cf53_9 : decode cJ9_min_7cf53 9 = .ok (.iload_n 1, 1) := by decide +kernel
theorem dJ9_min_7cf53_10 : decode cJ9_min_7cf53 10 = .ok (.ireturn, 1) := by decide +kernel
theorem dJ9_min_f86c9_0 : decode cJ9_min_f86c9 0 = .ok (.lload_n 0, 1) := by decide +kernel
theorem dJ9_min_f86c9_1 : decode cJ9_min_f86c9 1 = .ok (.lload_n 2, 1) := by decide +kernel
theorem dJ9_min_f86c9_2 : decode cJ9_min_f86c9 2 = .ok (.lcmp, 1) := by decide +kernel
theorem dJ9_min_f86c9_3 : decode cJ9_min_f86c9 3 = .ok (.ifCond .gt 7, 3) := by decide +kernel
theorem dJ9_min_f86c9_6 : decode cJ9_min_f86c9 6 = .ok (.lload_n 0, 1) := by decide +kernel
theorem dJ9_min_f86c9_7 : decode cJ9_min_f86c9 7 = .ok (.goto 4, 3) := by decide +kernel
theorem dJ9_min_f86c9_10 : decode cJ9_min_f86c9 10 = .ok (.lload_n 2, 1) := by decide +kernel
theorem dJ9_min_f86c9_11 : decode cJ9_min_f86c9 11 = .ok (.lreturn, 1) := by decide +kernel
theorem dJ0_length_8abf5_0 : decode cJ0_length_8abf5 0 = .ok (.aload_n 0, 1) := by decide +kernel
theorem dJ0_length_8abf5_1 : decode cJ0_length_8abf5 1 = .ok (.getfield 9, 3) := by decide +kernel
theorem dJ0_length_8abf5_4 : decode cJ0_length_8abf5 4 = .ok (.arraylength, 1) := by decide +kernel
theorem dJ0_length_8abf5_5 : decode cJ0_length_8abf5 5 = .ok (.aload_n 0, 1) := by decide +kernel
theorem dJ0_length_8abf5_6 : decode cJ0_length_8abf5 6 = .ok (.invokevirtual 335, 3) := by decide +kernel
theorem dJ0_length_8abf5_9 : decode cJ0_length_8abf5 9 = .ok (.ishr, 1) := by decide +kernel
theorem dJ0_length_8abf5_10 : decode cJ0_length_8abf5 10 = .ok (.ireturn, 1) := by decide +kernel
theorem dJ0_indexOf_0f7a4_0 : decode cJ0_indexOf_0f7a4 0 = .ok (.aload_n 0, 1) := by decide +kernel
theorem dJ0_indexOf_0f7a4_1 : decode cJ0_indexOf_0f7a4 1 = .ok (.iload_n 1, 1) := by decide +kernel
theorem dJ0_indexOf_0f7a4_2 : decode cJ0_indexOf_0f7a4 2 = .ok (.iconst 0, 1) := by decide +kernel
theorem dJ0_indexOf_0f7a4_3 : decode cJ0_indexOf_0f7a4 3 = .ok (.invokevirtual 633, 3) := by decide +kernel
theorem dJ0_indexOf_0f7a4_6 : decode cJ0_indexOf_0f7a4 6 = .ok (.ireturn, 1) := by decide +kernel
theorem dJ0_indexOf_7cf53_0 : decode cJ0_indexOf_7cf53 0 = .ok (.aload_n 0, 1) := by decide +kernel
theorem dJ0_indexOf_7cf53_1 : decode cJ0_indexOf_7cf53 1 = .ok (.invokevirtual 492, 3) := by decide +kernel
theorem dJ0_indexOf_7cf53_4 : decode cJ0_indexOf_7cf53 4 = .ok (.ifCond .eq 19, 3) := by decide +kernel
theorem dJ0_indexOf_7cf53_7 : decode cJ0_indexOf_7cf53 7 = .ok (.aload_n 0, 1) := by decide +kernel
theorem dJ0_indexOf_7cf53_8 : decode cJ0_indexOf_7cf53 8 = .ok (.getfield 9, 3) := by decide +kernel
theorem dJ0_indexOf_7cf53_11 : decode cJ0_indexOf_7cf53 11 = .ok (.iload_n 1, 1) := by decide +kernel
theorem dJ0_indexOf_7cf53_12 : decode cJ0_indexOf_7cf53 12 = .ok (.iload_n 2, 1) := by decide +kernel
theorem dJ0_indexOf_7cf53_13 : decode cJ0_indexOf_7cf53 13 = .ok (.aload_n 0, 1) := by decide +kernel
theorem dJ0_indexOf_7cf53_14 : decode cJ0_indexOf_7cf53 14 = .ok (.invokevirtual 505, 3) := by decide +kernel
theorem dJ0_indexOf_7cf53_17 : decode cJ0_indexOf_7cf53 17 = .ok (.invokestatic 637, 3) := by decide +kernel
theorem dJ0_indexOf_7cf53_20 : decode cJ0_indexOf_7cf53 20 = .ok (.goto 16, 3) := by decide +kernel
theorem dJ0_indexOf_7cf53_23 : decode cJ0_indexOf_7cf53 23 = .ok (.aload_n 0, 1) := by decide +kernel
theorem dJ0_indexOf_7cf53_24 : decode cJ0_indexOf_7cf53 24 = .ok (.getfield 9, 3) := by decide +kernel
theorem dJ0_indexOf_7cf53_27 : decode cJ0_indexOf_7cf53 27 = .ok (.iload_n 1, 1) := by decide +kernel
theorem dJ0_indexOf_7cf53_28 : decode cJ0_indexOf_7cf53 28 = .ok (.iload_n 2, 1) := by decide +kernel
theorem dJ0_indexOf_7cf53_29 : decode cJ0_indexOf_7cf53 29 = .ok (.aload_n 0, 1) := by decide +kernel
theorem dJ0_indexOf_7cf53_30 : decode cJ0_indexOf_7cf53 30 = .ok (.invokevirtual 505, 3) := by decide +kernel
theorem dJ0_indexOf_7cf53_33 : decode cJ0_indexOf_7cf53 33 = .ok (.invokestatic 640, 3) := by decide +kernel
theorem dJ0_indexOf_7cf53_36 : decode cJ0_indexOf_7cf53 36 = .ok (.ireturn, 1) := by decide +kernel
theorem dJ0_coder_7d493_0 : decode cJ0_coder_7d493 0 = .ok (.getstatic 38, 3) := by decide +kernel
theorem dJ0_coder_7d493_3 : decode cJ0_coder_7d493 3 = .ok (.ifCond .eq 10, 3) := by decide +kernel
theorem dJ0_coder_7d493_6 : decode cJ0_coder_7d493 6 = .ok (.aload_n 0, 1) := by decide +kernel
theorem dJ0_coder_7d493_7 : decode cJ0_coder_7d493 7 = .ok (.getfield 15, 3) := by decide +kernel
theorem dJ0_coder_7d493_10 : decode cJ0_coder_7d493 10 = .ok (.goto 4, 3) := by decide +kernel
theorem dJ0_coder_7d493_13 : decode cJ0_coder_7d493 13 = .ok (.iconst 1, 1) := by decide +kernel
theorem dJ0_coder_7d493_14 : decode cJ0_coder_7d493 14 = .ok (.ireturn, 1) := by decide +kernel
theorem dJ0_isLatin1_aae02_0 : decode cJ0_isLatin1_aae02 0 = .ok (.getstatic 38, 3) := by decide +kernel
theorem dJ0_isLatin1_aae02_3 : decode cJ0_isLatin1_aae02 3 = .ok (.ifCond .eq 14, 3) := by decide +kernel
theorem dJ0_isLatin1_aae02_6 : decode cJ0_isLatin1_aae02 6 = .ok (.aload_n 0, 1) := by decide +kernel
theorem dJ0_isLatin1_aae02_7 : decode cJ0_isLatin1_aae02 7 = .ok (.getfield 15, 3) := by decide +kernel
theorem dJ0_isLatin1_aae02_10 : decode cJ0_isLatin1_aae02 10 = .ok (.ifCond .ne 7, 3) := by decide +kernel
theorem dJ0_isLatin1_aae02_13 : decode cJ0_isLatin1_aae02 13 = .ok (.iconst 1, 1) := by decide +kernel
theorem dJ0_isLatin1_aae02_14 : decode cJ0_isLatin1_aae02 14 = .ok (.goto 4, 3) := by decide +kernel
theorem dJ0_isLatin1_aae02_17 : decode cJ0_isLatin1_aae02 17 = .ok (.iconst 0, 1) := by decide +kernel
theorem dJ0_isLatin1_aae02_18 : decode cJ0_isLatin1_aae02 18 = .ok (.ireturn, 1) := by decide +kernel
theorem dJ1_canEncode_9a6ad_0 : decode cJ1_canEncode_9a6ad 0 = .ok (.iload_n 0, 1) := by decide +kernel
theorem dJ1_canEncode_9a6ad_1 : decode cJ1_canEncode_9a6ad 1 = .ok (.ifCond .lt 14, 3) := by decide +kernel
theorem dJ1_canEncode_9a6ad_4 : decode cJ1_canEncode_9a6ad 4 = .ok (.iload_n 0, 1) := by decide +kernel
theorem dJ1_canEncode_9a6ad_5 : decode cJ1_canEncode_9a6ad 5 = .ok (.sipush 255, 3) := by decide +kernel
theorem dJ1_canEncode_9a6ad_8 : decode cJ1_canEncode_9a6ad 8 = .ok (.if_icmp .gt 7, 3) := by decide +kernel
theorem dJ1_canEncode_9a6ad_11 : decode cJ1_canEncode_9a6ad 11 = .ok (.iconst 1, 1) := by decide +kernel
theorem dJ1_canEncode_9a6ad_12 : decode cJ1_canEncode_9a6ad 12 = .ok (.goto 4, 3) := by decide +kernel
theorem dJ1_canEncode_9a6ad_15 : decode cJ1_canEncode_9a6ad 15 = .ok (.iconst 0, 1) := by decide +kernel
theorem dJ1_canEncode_9a6ad_16 : decode cJ1_canEncode_9a6ad 16 = .ok (.ireturn, 1) := by decide +kernel
theorem dJ1_indexOf_4cfef_0 : decode cJ1_indexOf_4cfef 0 = .ok (.iload_n 1, 1) := by decide +kernel
theorem dJ1_indexOf_4cfef_1 : decode cJ1_indexOf_4cfef 1 = .ok (.invokestatic 88, 3) := by decide +kernel
theorem dJ1_indexOf_4cfef_4 : decode cJ1_indexOf_4cfef 4 = .ok (.ifCond .ne 5, 3) := by decide +kernel
theorem dJ1_indexOf_4cfef_7 : decode cJ1_indexOf_4cfef 7 = .ok (.iconst (-1), 1) := by decide +kernel
theorem dJ1_indexOf_4cfef_8 : decode cJ1_indexOf_4cfef 8 = .ok (.ireturn, 1) := by decide +kernel
theorem dJ1_indexOf_4cfef_9 : decode cJ1_indexOf_4cfef 9 = .ok (.iload_n 2, 1) := by decide +kernel
theorem dJ1_indexOf_4cfef_10 : decode cJ1_indexOf_4cfef 10 = .ok (.iconst 0, 1) := by decide +kernel
theorem dJ1_indexOf_4cfef_11 : decode cJ1_indexOf_4cfef 11 = .ok (.invokestatic 92, 3) := by decide +kernel
theorem dJ1_indexOf_4cfef_14 : decode cJ1_indexOf_4cfef 14 = .ok (.istore_n 2, 1) := by decide +kernel
theorem dJ1_indexOf_4cfef_15 : decode cJ1_indexOf_4cfef 15 = .ok (.iload_n 3, 1) := by decide +kernel
theorem dJ1_indexOf_4cfef_16 : decode cJ1_indexOf_4cfef 16 = .ok (.aload_n 0, 1) := by decide +kernel
theorem dJ1_indexOf_4cfef_17 : decode cJ1_indexOf_4cfef 17 = .ok (.arraylength, 1) := by decide +kernel
theorem dJ1_indexOf_4cfef_18 : decode cJ1_indexOf_4cfef 18 = .ok (.invokestatic 38, 3) := by decide +kernel
theorem dJ1_indexOf_4cfef_21 : decode cJ1_indexOf_4cfef 21 = .ok (.istore_n 3, 1) := by decide +kernel
theorem dJ1_indexOf_4cfef_22 : decode cJ1_indexOf_4cfef 22 = .ok (.iload_n 2, 1) := by decide +kernel
theorem dJ1_indexOf_4cfef_23 : decode cJ1_indexOf_4cfef 23 = .ok (.iload_n 3, 1) := by decide +kernel
theorem dJ1_indexOf_4cfef_24 : decode cJ1_indexOf_4cfef 24 = .ok (.if_icmp .lt 5, 3) := by decide +kernel
theorem dJ1_indexOf_4cfef_27 : decode cJ1_indexOf_4cfef 27 = .ok (.iconst (-1), 1) := by decide +kernel
theorem dJ1_indexOf_4cfef_28 : decode cJ1_indexOf_4cfef 28 = .ok (.ireturn, 1) := by decide +kernel
theorem dJ1_indexOf_4cfef_29 : decode cJ1_indexOf_4cfef 29 = .ok (.aload_n 0, 1) := by decide +kernel
theorem dJ1_indexOf_4cfef_30 : decode cJ1_indexOf_4cfef 30 = .ok (.iload_n 1, 1) := by decide +kernel
theorem dJ1_indexOf_4cfef_31 : decode cJ1_indexOf_4cfef 31 = .ok (.iload_n 2, 1) := by decide +kernel
theorem dJ1_indexOf_4cfef_32 : decode cJ1_indexOf_4cfef 32 = .ok (.iload_n 3, 1) := by decide +kernel
theorem dJ1_indexOf_4cfef_33 : decode cJ1_indexOf_4cfef 33 = .ok (.invokestatic 95, 3) := by decide +kernel
theorem dJ1_indexOf_4cfef_36 : decode cJ1_indexOf_4cfef 36 = .ok (.ireturn, 1) := by decide +kernel
theorem dJ1_indexOfChar_4cfef_0 : decode cJ1_indexOfChar_4cfef 0 = .ok (.iload_n 1, 1) := by decide +kernel
theorem dJ1_indexOfChar_4cfef_1 : decode cJ1_indexOfChar_4cfef 1 = .ok (.i2b, 1) := by decide +kernel
theorem dJ1_indexOfChar_4cfef_2 : decode cJ1_indexOfChar_4cfef 2 = .ok (.istore 4, 2) := by decide +kernel
theorem dJ1_indexOfChar_4cfef_4 : decode cJ1_indexOfChar_4cfef 4 = .ok (.iload_n 2, 1) := by decide +kernel
theorem dJ1_indexOfChar_4cfef_5 : decode cJ1_indexOfChar_4cfef 5 = .ok (.istore 5, 2) := by decide +kernel
theorem dJ1_indexOfChar_4cfef_7 : decode cJ1_indexOfChar_4cfef 7 = .ok (.iload 5, 2) := by decide +kernel
theorem dJ1_indexOfChar_4cfef_9 : decode cJ1_indexOfChar_4cfef 9 = .ok (.iload_n 3, 1) := by decide +kernel
theorem dJ1_indexOfChar_4cfef_10 : decode cJ1_indexOfChar_4cfef 10 = .ok (.if_icmp .ge 21, 3) := by decide +kernel
theorem dJ1_indexOfChar_4cfef_13 : decode cJ1_indexOfChar_4cfef 13 = .ok (.aload_n 0, 1) := by decide +kernel
theorem dJ1_indexOfChar_4cfef_14 : decode cJ1_indexOfChar_4cfef 14 = .ok (.iload 5, 2) := by decide +kernel
theorem dJ1_indexOfChar_4cfef_16 : decode cJ1_indexOfChar_4cfef 16 = .ok (.baload, 1) := by decide +kernel
theorem dJ1_indexOfChar_4cfef_17 : decode cJ1_indexOfChar_4cfef 17 = .ok (.iload 4, 2) := by decide +kernel
theorem dJ1_indexOfChar_4cfef_19 : decode cJ1_indexOfChar_4cfef 19 = .ok (.if_icmp .ne 6, 3) := by decide +kernel
theorem dJ1_indexOfChar_4cfef_22 : decode cJ1_indexOfChar_4cfef 22 = .ok (.iload 5, 2) := by decide +kernel
theorem dJ1_indexOfChar_4cfef_24 : decode cJ1_indexOfChar_4cfef 24 = .ok (.ireturn, 1) := by decide +kernel
theorem dJ1_indexOfChar_4cfef_25 : decode cJ1_indexOfChar_4cfef 25 = .ok (.iinc 5 1, 3) := by decide +kernel
theorem dJ1_indexOfChar_4cfef_28 : decode cJ1_indexOfChar_4cfef 28 = .ok (.goto (-21), 3) := by decide +kernel
theorem dJ1_indexOfChar_4cfef_31 : decode cJ1_indexOfChar_4cfef 31 = .ok (.iconst (-1), 1) := by decide +kernel
theorem dJ1_indexOfChar_4cfef_32 : decode cJ1_indexOfChar_4cfef 32 = .ok (.ireturn, 1) := by decide +kernel
theorem dJxa1e45_init_da8c8_0 : decode cJxa1e45_init_da8c8 0 = .ok (.aload_n 0, 1) := by decide +kernel
theorem dJxa1e45_init_da8c8_1 : decode cJxa1e45_init_da8c8 1 = .ok (.invokespecial 1, 3) := by decide +kernel
theorem dJxa1e45_init_da8c8_4 : decode cJxa1e45_init_da8c8 4 = .ok (.return_, 1) := by decide +kernel
theorem dJxc12de_init_da8c8_0 : decode cJxc12de_init_da8c8 0 = .ok (.aload_n 0, 1) := by decide +kernel
theorem dJxc12de_init_da8c8_1 : decode cJxc12de_init_da8c8 1 = .ok (.invokespecial 1, 3) := by decide +kernel
theorem dJxc12de_init_da8c8_4 : decode cJxc12de_init_da8c8 4 = .ok (.aload_n 0, 1) := by decide +kernel
theorem dJxc12de_init_da8c8_5 : decode cJxc12de_init_da8c8 5 = .ok (.iconst 0, 1) := by decide +kernel
theorem dJxc12de_init_da8c8_6 : decode cJxc12de_init_da8c8 6 = .ok (.putfield 7, 3) := by decide +kernel
theorem dJxc12de_init_da8c8_9 : decode cJxc12de_init_da8c8 9 = .ok (.return_, 1) := by decide +kernel
theorem dJx4a65c_init_da8c8_0 : decode cJx4a65c_init_da8c8 0 = .ok (.aload_n 0, 1) := by decide +kernel
theorem dJx4a65c_init_da8c8_1 : decode cJx4a65c_init_da8c8 1 = .ok (.invokespecial 1, 3) := by decide +kernel
theorem dJx4a65c_init_da8c8_4 : decode cJx4a65c_init_da8c8 4 = .ok (.aload_n 0, 1) := by decide +kernel
theorem dJx4a65c_init_da8c8_5 : decode cJx4a65c_init_da8c8 5 = .ok (.getstatic 39, 3) := by decide +kernel
theorem dJx4a65c_init_da8c8_8 : decode cJx4a65c_init_da8c8 8 = .ok (.putfield 9, 3) := by decide +kernel
theorem dJx4a65c_init_da8c8_11 : decode cJx4a65c_init_da8c8 11 = .ok (.return_, 1) := by decide +kernel
theorem dJx4a65c_grow_92f84_0 : decode cJx4a65c_grow_92f84 0 = .ok (.aload_n 0, 1) := by decide +kernel
theorem dJx4a65c_grow_92f84_1 : decode cJx4a65c_grow_92f84 1 = .ok (.getfield 9, 3) := by decide +kernel
theorem dJx4a65c_grow_92f84_4 : decode cJx4a65c_grow_92f84 4 = .ok (.arraylength, 1) := by decide +kernel
theorem dJx4a65c_grow_92f84_5 : decode cJx4a65c_grow_92f84 5 = .ok (.istore_n 2, 1) := by decide +kernel
theorem dJx4a65c_grow_92f84_6 : decode cJx4a65c_grow_92f84 6 = .ok (.iload_n 2, 1) := by decide +kernel
theorem dJx4a65c_grow_92f84_7 : decode cJx4a65c_grow_92f84 7 = .ok (.ifCond .gt 13, 3) := by decide +kernel
theorem dJx4a65c_grow_92f84_10 : decode cJx4a65c_grow_92f84 10 = .ok (.aload_n 0, 1) := by decide +kernel
theorem dJx4a65c_grow_92f84_11 : decode cJx4a65c_grow_92f84 11 = .ok (.getfield 9, 3) := by decide +kernel
theorem dJx4a65c_grow_92f84_14 : decode cJx4a65c_grow_92f84 14 = .ok (.getstatic 39, 3) := by decide +kernel
theorem dJx4a65c_grow_92f84_17 : decode cJx4a65c_grow_92f84 17 = .ok (.if_acmp .eq 28, 3) := by decide +kernel
theorem dJx4a65c_grow_92f84_20 : decode cJx4a65c_grow_92f84 20 = .ok (.iload_n 2, 1) := by decide +kernel
theorem dJx4a65c_grow_92f84_21 : decode cJx4a65c_grow_92f84 21 = .ok (.iload_n 1, 1) := by decide +kernel
theorem dJx4a65c_grow_92f84_22 : decode cJx4a65c_grow_92f84 22 = .ok (.iload_n 2, 1) := by decide +kernel
theorem dJx4a65c_grow_92f84_23 : decode cJx4a65c_grow_92f84 23 = .ok (.isub, 1) := by decide +kernel
theorem dJx4a65c_grow_92f84_24 : decode cJx4a65c_grow_92f84 24 = .ok (.iload_n 2, 1) := by decide +kernel
theorem dJx4a65c_grow_92f84_25 : decode cJx4a65c_grow_92f84 25 = .ok (.iconst 1, 1) := by decide +kernel
theorem dJx4a65c_grow_92f84_26 : decode cJx4a65c_grow_92f84 26 = .ok (.ishr, 1) := by decide +kernel
theorem dJx4a65c_grow_92f84_27 : decode cJx4a65c_grow_92f84 27 = .ok (.invokestatic 73, 3) := by decide +kernel
theorem dJx4a65c_grow_92f84_30 : decode cJx4a65c_grow_92f84 30 = .ok (.istore_n 3, 1) := by decide +kernel
theorem dJx4a65c_grow_92f84_31 : decode cJx4a65c_grow_92f84 31 = .ok (.aload_n 0, 1) := by decide +kernel
theorem dJx4a65c_grow_92f84_32 : decode cJx4a65c_grow_92f84 32 = .ok (.aload_n 0, 1) := by decide +kernel
theorem dJx4a65c_grow_92f84_33 : decode cJx4a65c_grow_92f84 33 = .ok (.getfield 9, 3) := by decide +kernel
theorem dJx4a65c_grow_92f84_36 : decode cJx4a65c_grow_92f84 36 = .ok (.iload_n 3, 1) := by decide +kernel
theorem dJx4a65c_grow_92f84_37 : decode cJx4a65c_grow_92f84 37 = .ok (.invokestatic 66, 3) := by decide +kernel
theorem dJx4a65c_grow_92f84_40 : decode cJx4a65c_grow_92f84 40 = .ok (.dup_x1, 1) := by decide +kernel
theorem dJx4a65c_grow_92f84_41 : decode cJx4a65c_grow_92f84 41 = .ok (.putfield 9, 3) := by decide +kernel
theorem dJx4a65c_grow_92f84_44 : decode cJx4a65c_grow_92f84 44 = .ok (.areturn, 1) := by decide +kernel
theorem dJx4a65c_grow_92f84_45 : decode cJx4a65c_grow_92f84 45 = .ok (.aload_n 0, 1) := by decide +kernel
theorem dJx4a65c_grow_92f84_46 : decode cJx4a65c_grow_92f84 46 = .ok (.bipush 10, 2) := by decide +kernel
theorem dJx4a65c_grow_92f84_48 : decode cJx4a65c_grow_92f84 48 = .ok (.iload_n 1, 1) := by decide +kernel
theorem dJx4a65c_grow_92f84_49 : decode cJx4a65c_grow_92f84 49 = .ok (.invokestatic 79, 3) := by decide +kernel
theorem dJx4a65c_grow_92f84_52 : decode cJx4a65c_grow_92f84 52 = .ok (.anewarray 7, 3) := by decide +kernel
theorem dJx4a65c_grow_92f84_55 : decode cJx4a65c_grow_92f84 55 = .ok (.dup_x1, 1) := by decide +kernel
theorem dJx4a65c_grow_92f84_56 : decode cJx4a65c_grow_92f84 56 = .ok (.putfield 9, 3) := by decide +kernel
theorem dJx4a65c_grow_92f84_59 : decode cJx4a65c_grow_92f84 59 = .ok (.areturn, 1) := by decide +kernel
theorem dJx4a65c_grow_d5877_0 : decode cJx4a65c_grow_d5877 0 = .ok (.aload_n 0, 1) := by decide +kernel
theorem dJx4a65c_grow_d5877_1 : decode cJx4a65c_grow_d5877 1 = .ok (.aload_n 0, 1) := by decide +kernel
theorem dJx4a65c_grow_d5877_2 : decode cJx4a65c_grow_d5877 2 = .ok (.getfield 48, 3) := by decide +kernel
theorem dJx4a65c_grow_d5877_5 : decode cJx4a65c_grow_d5877 5 = .ok (.iconst 1, 1) := by decide +kernel
theorem dJx4a65c_grow_d5877_6 : decode cJx4a65c_grow_d5877 6 = .ok (.iadd, 1) := by decide +kernel
theorem dJx4a65c_grow_d5877_7 : decode cJx4a65c_grow_d5877 7 = .ok (.invokevirtual 69, 3) := by decide +kernel
theorem dJx4a65c_grow_d5877_10 : decode cJx4a65c_grow_d5877 10 = .ok (.areturn, 1) := by decide +kernel
theorem dJx4a65c_size_8abf5_0 : decode cJx4a65c_size_8abf5 0 = .ok (.aload_n 0, 1) := by decide +kernel
theorem dJx4a65c_size_8abf5_1 : decode cJx4a65c_size_8abf5 1 = .ok (.getfield 48, 3) := by decide +kernel
theorem dJx4a65c_size_8abf5_4 : decode cJx4a65c_size_8abf5 4 = .ok (.ireturn, 1) := by decide +kernel
theorem dJx4a65c_elementData_915e3_0 : decode cJx4a65c_elementData_915e3 0 = .ok (.aload_n 0, 1) := by decide +kernel
theorem dJx4a65c_elementData_915e3_1 : decode cJx4a65c_elementData_915e3 1 = .ok (.getfield 9, 3) := by decide +kernel
theorem dJx4a65c_elementData_915e3_4 : decode cJx4a65c_elementData_915e3 4 = .ok (.iload_n 1, 1) := by decide +kernel
theorem dJx4a65c_elementData_915e3_5 : decode cJx4a65c_elementData_915e3 5 = .ok (.aaload, 1) := by decide +kernel
theorem dJx4a65c_elementData_915e3_6 : decode cJx4a65c_elementData_915e3 6 = .ok (.areturn, 1) := by decide +kernel
theorem dJx4a65c_get_915e3_0 : decode cJx4a65c_get_915e3 0 = .ok (.iload_n 1, 1) := by decide +kernel
theorem dJx4a65c_get_915e3_1 : decode cJx4a65c_get_915e3 1 = .ok (.aload_n 0, 1) := by decide +kernel
theorem dJx4a65c_get_915e3_2 : decode cJx4a65c_get_915e3 2 = .ok (.getfield 48, 3) := by decide +kernel
theorem dJx4a65c_get_915e3_5 : decode cJx4a65c_get_915e3 5 = .ok (.invokestatic 118, 3) := by decide +kernel
theorem dJx4a65c_get_915e3_8 : decode cJx4a65c_get_915e3 8 = .ok (.pop, 1) := by decide +kernel
theorem dJx4a65c_get_915e3_9 : decode cJx4a65c_get_915e3 9 = .ok (.aload_n 0, 1) := by decide +kernel
theorem dJx4a65c_get_915e3_10 : decode cJx4a65c_get_915e3 10 = .ok (.iload_n 1, 1) := by decide +kernel
theorem dJx4a65c_get_915e3_11 : decode cJx4a65c_get_915e3 11 = .ok (.invokevirtual 123, 3) := by decide +kernel
theorem dJx4a65c_get_915e3_14 : decode cJx4a65c_get_915e3 14 = .ok (.areturn, 1) := by decide +kernel
theorem dJx4a65c_add_72be8_0 : decode cJx4a65c_add_72be8 0 = .ok (.iload_n 3, 1) := by decide +kernel
theorem dJx4a65c_add_72be8_1 : decode cJx4a65c_add_72be8 1 = .ok (.aload_n 2, 1) := by decide +kernel
theorem dJx4a65c_add_72be8_2 : decode cJx4a65c_add_72be8 2 = .ok (.arraylength, 1) := by decide +kernel
theorem dJx4a65c_add_72be8_3 : decode cJx4a65c_add_72be8 3 = .ok (.if_icmp .ne 8, 3) := by decide +kernel
theorem dJx4a65c_add_72be8_6 : decode cJx4a65c_add_72be8 6 = .ok (.aload_n 0, 1) := by decide +kernel
theorem dJx4a65c_add_72be8_7 : decode cJx4a65c_add_72be8 7 = .ok (.invokevirtual 129, 3) := by decide +kernel
theorem dJx4a65c_add_72be8_10 : decode cJx4a65c_add_72be8 10 = .ok (.astore_n 2, 1) := by decide +kernel
theorem dJx4a65c_add_72be8_11 : decode cJx4a65c_add_72be8 11 = .ok (.aload_n 2, 1) := by decide +kernel
theorem dJx4a65c_add_72be8_12 : decode cJx4a65c_add_72be8 12 = .ok (.iload_n 3, 1) := by decide +kernel
theorem dJx4a65c_add_72be8_13 : decode cJx4a65c_add_72be8 13 = .ok (.aload_n 1, 1) := by decide +kernel
theorem dJx4a65c_add_72be8_14 : decode cJx4a65c_add_72be8 14 = .ok (.aastore, 1) := by decide +kernel
theorem dJx4a65c_add_72be8_15 : decode cJx4a65c_add_72be8 15 = .ok (.aload_n 0, 1) := by decide +kernel
theorem dJx4a65c_add_72be8_16 : decode cJx4a65c_add_72be8 16 = .ok (.iload_n 3, 1) := by decide +kernel
theorem dJx4a65c_add_72be8_17 : decode cJx4a65c_add_72be8 17 = .ok (.iconst 1, 1) := by decide +kernel
theorem dJx4a65c_add_72be8_18 : decode cJx4a65c_add_72be8 18 = .ok (.iadd, 1) := by decide +kernel
theorem dJx4a65c_add_72be8_19 : decode cJx4a65c_add_72be8 19 = .ok (.putfield 48, 3) := by decide +kernel
theorem dJx4a65c_add_72be8_22 : decode cJx4a65c_add_72be8 22 = .ok (.return_, 1) := by decide +kernel
theorem dJx4a65c_add_9ea2d_0 : decode cJx4a65c_add_9ea2d 0 = .ok (.aload_n 0, 1) := by decide +kernel
theorem dJx4a65c_add_9ea2d_1 : decode cJx4a65c_add_9ea2d 1 = .ok (.dup, 1) := by decide +kernel
theorem dJx4a65c_add_9ea2d_2 : decode cJx4a65c_add_9ea2d 2 = .ok (.getfield 63, 3) := by decide +kernel
theorem dJx4a65c_add_9ea2d_5 : decode cJx4a65c_add_9ea2d 5 = .ok (.iconst 1, 1) := by decide +kernel
theorem dJx4a65c_add_9ea2d_6 : decode cJx4a65c_add_9ea2d 6 = .ok (.iadd, 1) := by decide +kernel
theorem dJx4a65c_add_9ea2d_7 : decode cJx4a65c_add_9ea2d 7 = .ok (.putfield 63, 3) := by decide +kernel
theorem dJx4a65c_add_9ea2d_10 : decode cJx4a65c_add_9ea2d 10 = .ok (.aload_n 0, 1) := by decide +kernel
theorem dJx4a65c_add_9ea2d_11 : decode cJx4a65c_add_9ea2d 11 = .ok (.aload_n 1, 1) := by decide +kernel
theorem dJx4a65c_add_9ea2d_12 : decode cJx4a65c_add_9ea2d 12 = .ok (.aload_n 0, 1) := by decide +kernel
theorem dJx4a65c_add_9ea2d_13 : decode cJx4a65c_add_9ea2d 13 = .ok (.getfield 9, 3) := by decide +kernel
theorem dJx4a65c_add_9ea2d_16 : decode cJx4a65c_add_9ea2d 16 = .ok (.aload_n 0, 1) := by decide +kernel
theorem dJx4a65c_add_9ea2d_17 : decode cJx4a65c_add_9ea2d 17 = .ok (.getfield 48, 3) := by decide +kernel
theorem dJx4a65c_add_9ea2d_20 : decode cJx4a65c_add_9ea2d 20 = .ok (.invokevirtual 131, 3) := by decide +kernel
theorem dJx4a65c_add_9ea2d_23 : decode cJx4a65c_add_9ea2d 23 = .ok (.iconst 1, 1) := by decide +kernel
theorem dJx4a65c_add_9ea2d_24 : decode cJx4a65c_add_9ea2d 24 = .ok (.ireturn, 1) := by decide +kernel
theorem dJ7_copyOf_1904c_0 : decode cJ7_copyOf_1904c 0 = .ok (.aload_n 0, 1) := by decide +kernel
theorem dJ7_copyOf_1904c_1 : decode cJ7_copyOf_1904c 1 = .ok (.iload_n 1, 1) := by decide +kernel
theorem dJ7_copyOf_1904c_2 : decode cJ7_copyOf_1904c 2 = .ok (.aload_n 0, 1) := by decide +kernel
theorem dJ7_copyOf_1904c_3 : decode cJ7_copyOf_1904c 3 = .ok (.invokevirtual 86, 3) := by decide +kernel
theorem dJ7_copyOf_1904c_6 : decode cJ7_copyOf_1904c 6 = .ok (.invokestatic 300, 3) := by decide +kernel
theorem dJ7_copyOf_1904c_9 : decode cJ7_copyOf_1904c 9 = .ok (.areturn, 1) := by decide +kernel
theorem dJ7_copyOf_6403c_0 : decode cJ7_copyOf_6403c 0 = .ok (.aload_n 2, 1) := by decide +kernel
theorem dJ7_copyOf_6403c_1 : decode cJ7_copyOf_6403c 1 = .ok (.ldc 110, 2) := by decide +kernel
theorem dJ7_copyOf_6403c_3 : decode cJ7_copyOf_6403c 3 = .ok (.if_acmp .ne 10, 3) := by decide +kernel
theorem dJ7_copyOf_6403c_6 : decode cJ7_copyOf_6403c 6 = .ok (.iload_n 1, 1) := by decide +kernel
theorem dJ7_copyOf_6403c_7 : decode cJ7_copyOf_6403c 7 = .ok (.anewarray 2, 3) := by decide +kernel
theorem dJ7_copyOf_6403c_10 : decode cJ7_copyOf_6403c 10 = .ok (.goto 14, 3) := by decide +kernel
theorem dJ7_copyOf_6403c_13 : decode cJ7_copyOf_6403c 13 = .ok (.aload_n 2, 1) := by decide +kernel
theorem dJ7_copyOf_6403c_14 : decode cJ7_copyOf_6403c 14 = .ok (.invokevirtual 90, 3) := by decide +kernel
theorem dJ7_copyOf_6403c_17 : decode cJ7_copyOf_6403c 17 = .ok (.iload_n 1, 1) := by decide +kernel
theorem dJ7_copyOf_6403c_18 : decode cJ7_copyOf_6403c 18 = .ok (.invokestatic 95, 3) := by decide +kernel
theorem dJ7_copyOf_6403c_21 : decode cJ7_copyOf_6403c 21 = .ok (.checkcast 110, 3) := by decide +kernel
theorem dJ7_copyOf_6403c_24 : decode cJ7_copyOf_6403c 24 = .ok (.astore_n 3, 1) := by decide +kernel
theorem dJ7_copyOf_6403c_25 : decode cJ7_copyOf_6403c 25 = .ok (.aload_n 0, 1) := by decide +kernel
theorem dJ7_copyOf_6403c_26 : decode cJ7_copyOf_6403c 26 = .ok (.iconst 0, 1) := by decide +kernel
theorem dJ7_copyOf_6403c_27 : decode cJ7_copyOf_6403c 27 = .ok (.aload_n 3, 1) := by decide +kernel
theorem dJ7_copyOf_6403c_28 : decode cJ7_copyOf_6403c 28 = .ok (.iconst 0, 1) := by decide +kernel
theorem dJ7_copyOf_6403c_29 : decode cJ7_copyOf_6403c 29 = .ok (.aload_n 0, 1) := by decide +kernel
theorem dJ7_copyOf_6403c_30 : decode cJ7_copyOf_6403c 30 = .ok (.arraylength, 1) := by decide +kernel
theorem dJ7_copyOf_6403c_31 : decode cJ7_copyOf_6403c 31 = .ok (.iload_n 1, 1) := by decide +kernel
theorem dJ7_copyOf_6403c_32 : decode cJ7_copyOf_6403c 32 = .ok (.invokestatic 304, 3) := by decide +kernel
theorem dJ7_copyOf_6403c_35 : decode cJ7_copyOf_6403c 35 = .ok (.invokestatic 150, 3) := by decide +kernel
theorem dJ7_copyOf_6403c_38 : decode cJ7_copyOf_6403c 38 = .ok (.aload_n 3, 1) := by decide +kernel
theorem dJ7_copyOf_6403c_39 : decode cJ7_copyOf_6403c 39 = .ok (.areturn, 1) := by decide +kernel
theorem dJ15_checkIndex_7cf53_0 : decode cJ15_checkIndex_7cf53 0 = .ok (.iload_n 0, 1) := by decide +kernel
theorem dJ15_checkIndex_7cf53_1 : decode cJ15_checkIndex_7cf53 1 = .ok (.iload_n 1, 1) := by decide +kernel
theorem dJ15_checkIndex_7cf53_2 : decode cJ15_checkIndex_7cf53 2 = .ok (.aconst_null, 1) := by decide +kernel
theorem dJ15_checkIndex_7cf53_3 : decode cJ15_checkIndex_7cf53 3 = .ok (.invokestatic 105, 3) := by decide +kernel
theorem dJ15_checkIndex_7cf53_6 : decode cJ15_checkIndex_7cf53 6 = .ok (.ireturn, 1) := by decide +kernel
theorem dJ8_newLength_cabcc_0 : decode cJ8_newLength_cabcc 0 = .ok (.iload_n 0, 1) := by decide +kernel
theorem dJ8_newLength_cabcc_1 : decode cJ8_newLength_cabcc 1 = .ok (.iload_n 1, 1) := by decide +kernel
theorem dJ8_newLength_cabcc_2 : decode cJ8_newLength_cabcc 2 = .ok (.iload_n 2, 1) := by decide +kernel
theorem dJ8_newLength_cabcc_3 : decode cJ8_newLength_cabcc 3 = .ok (.invokestatic 194, 3) := by decide +kernel
theorem dJ8_newLength_cabcc_6 : decode cJ8_newLength_cabcc 6 = .ok (.iadd, 1) := by decide +kernel
theorem dJ8_newLength_cabcc_7 : decode cJ8_newLength_cabcc 7 = .ok (.istore_n 3, 1) := by decide +kernel
theorem dJ8_newLength_cabcc_8 : decode cJ8_newLength_cabcc 8 = .ok (.iconst 0, 1) := by decide +kernel
theorem dJ8_newLength_cabcc_9 : decode cJ8_newLength_cabcc 9 = .ok (.iload_n 3, 1) := by decide +kernel
theorem dJ8_newLength_cabcc_10 : decode cJ8_newLength_cabcc 10 = .ok (.if_icmp .ge 11, 3) := by decide +kernel
theorem dJ8_newLength_cabcc_13 : decode cJ8_newLength_cabcc 13 = .ok (.iload_n 3, 1) := by decide +kernel
theorem dJ8_newLength_cabcc_14 : decode cJ8_newLength_cabcc 14 = .ok (.ldc 200, 2) := by decide +kernel
theorem dJ8_newLength_cabcc_16 : decode cJ8_newLength_cabcc 16 = .ok (.if_icmp .gt 5, 3) := by decide +kernel
theorem dJ8_newLength_cabcc_19 : decode cJ8_newLength_cabcc 19 = .ok (.iload_n 3, 1) := by decide +kernel
theorem dJ8_newLength_cabcc_20 : decode cJ8_newLength_cabcc 20 = .ok (.ireturn, 1) := by decide +kernel
theorem dJ8_newLength_cabcc_21 : decode cJ8_newLength_cabcc 21 = .ok (.iload_n 0, 1) := by decide +kernel
theorem dJ8_newLength_cabcc_22 : decode cJ8_newLength_cabcc 22 = .ok (.iload_n 1, 1) := by decide +kernel
theorem dJ8_newLength_cabcc_23 : decode cJ8_newLength_cabcc 23 = .ok (.invokestatic 201, 3) := by decide +kernel
theorem dJ8_newLength_cabcc_26 : decode cJ8_newLength_cabcc 26 = .ok (.ireturn, 1) := by decide +kernel
theorem dJ3_checkIndex_8e157_0 : decode cJ3_checkIndex_8e157 0 = .ok (.iload_n 0, 1) := by decide +kernel
theorem dJ3_checkIndex_8e157_1 : decode cJ3_checkIndex_8e157 1 = .ok (.ifCond .lt 8, 3) := by decide +kernel
theorem dJ3_checkIndex_8e157_4 : decode cJ3_checkIndex_8e157 4 = .ok (.iload_n 0, 1) := by decide +kernel
theorem dJ3_checkIndex_8e157_5 : decode cJ3_checkIndex_8e157 5 = .ok (.iload_n 1, 1) := by decide +kernel
theorem dJ3_checkIndex_8e157_6 : decode cJ3_checkIndex_8e157 6 = .ok (.if_icmp .lt 10, 3) := by decide +kernel
theorem dJ3_checkIndex_8e157_9 : decode cJ3_checkIndex_8e157 9 = .ok (.aload_n 2, 1) := by decide +kernel
theorem dJ3_checkIndex_8e157_10 : decode cJ3_checkIndex_8e157 10 = .ok (.iload_n 0, 1) := by decide +kernel
theorem dJ3_checkIndex_8e157_11 : decode cJ3_checkIndex_8e157 11 = .ok (.iload_n 1, 1) := by decide +kernel
theorem dJ3_checkIndex_8e157_12 : decode cJ3_checkIndex_8e157 12 = .ok (.invokestatic 95, 3) := by decide +kernel
theorem dJ3_checkIndex_8e157_15 : decode cJ3_checkIndex_8e157 15 = .ok (.athrow, 1) := by decide +kernel
theorem dJ3_checkIndex_8e157_16 : decode cJ3_checkIndex_8e157 16 = .ok (.iload_n 0, 1) := by decide +kernel
theorem dJ3_checkIndex_8e157_17 : decode cJ3_checkIndex_8e157 17 = .ok (.ireturn, 1) := by decide +kernel
theorem dL_law_0 : decode cL_law 0 = .ok (.new 7, 3) := by decide +kernel
theorem dL_law_3 : decode cL_law 3 = .ok (.dup, 1) := by decide +kernel
theorem dL_law_4 : decode cL_law 4 = .ok (.invokespecial 9, 3) := by decide +kernel
theorem dL_law_7 : decode cL_law 7 = .ok (.astore_n 1, 1) := by decide +kernel
theorem dL_law_8 : decode cL_law 8 = .ok (.new 10, 3) := by decide +kernel
theorem dL_law_11 : decode cL_law 11 = .ok (.dup, 1) := by decide +kernel
theorem dL_law_12 : decode cL_law 12 = .ok (.invokespecial 12, 3) := by decide +kernel
theorem dL_law_15 : decode cL_law 15 = .ok (.astore_n 2, 1) := by decide +kernel
theorem dL_law_16 : decode cL_law 16 = .ok (.iconst 0, 1) := by decide +kernel
theorem dL_law_17 : decode cL_law 17 = .ok (.istore_n 3, 1) := by decide +kernel
theorem dL_law_18 : decode cL_law 18 = .ok (.iload_n 3, 1) := by decide +kernel
theorem dL_law_19 : decode cL_law 19 = .ok (.aload_n 0, 1) := by decide +kernel
theorem dL_law_20 : decode cL_law 20 = .ok (.arraylength, 1) := by decide +kernel
theorem dL_law_21 : decode cL_law 21 = .ok (.bipush 6, 2) := by decide +kernel
theorem dL_law_23 : decode cL_law 23 = .ok (.isub, 1) := by decide +kernel
theorem dL_law_24 : decode cL_law 24 = .ok (.if_icmp .gt 751, 3) := by decide +kernel
theorem dL_law_27 : decode cL_law 27 = .ok (.aload_n 0, 1) := by decide +kernel
theorem dL_law_28 : decode cL_law 28 = .ok (.iload_n 3, 1) := by decide +kernel
theorem dL_law_29 : decode cL_law 29 = .ok (.iaload, 1) := by decide +kernel
theorem dL_law_30 : decode cL_law 30 = .ok (.bipush 31, 2) := by decide +kernel
theorem dL_law_32 : decode cL_law 32 = .ok (.iand, 1) := by decide +kernel
theorem dL_law_33 : decode cL_law 33 = .ok (.tableswitch 736 0 17 #[87, 150, 173, 196, 239, 292, 345, 378, 401, 444, 478, 511, 544, 578, 602, 635, 669, 712], 87) := by decide +kernel
theorem dL_law_120 : decode cL_law 120 = .ok (.aload_n 1, 1) := by decide +kernel
theorem dL_law_121 : decode cL_law 121 = .ok (.aload_n 0, 1) := by decide +kernel
theorem dL_law_122 : decode cL_law 122 = .ok (.iload_n 3, 1) := by decide +kernel
theorem dL_law_123 : decode cL_law 123 = .ok (.iconst 1, 1) := by decide +kernel
theorem dL_law_124 : decode cL_law 124 = .ok (.iadd, 1) := by decide +kernel
theorem dL_law_125 : decode cL_law 125 = .ok (.iaload, 1) := by decide +kernel
theorem dL_law_126 : decode cL_law 126 = .ok (.aload_n 0, 1) := by decide +kernel
theorem dL_law_127 : decode cL_law 127 = .ok (.iload_n 3, 1) := by decide +kernel
theorem dL_law_128 : decode cL_law 128 = .ok (.iconst 2, 1) := by decide +kernel
theorem dL_law_129 : decode cL_law 129 = .ok (.iadd, 1) := by decide +kernel
theorem dL_law_130 : decode cL_law 130 = .ok (.iaload, 1) := by decide +kernel
theorem dL_law_131 : decode cL_law 131 = .ok (.aload_n 0, 1) := by decide +kernel
theorem dL_law_132 : decode cL_law 132 = .ok (.iload_n 3, 1) := by decide +kernel
theorem dL_law_133 : decode cL_law 133 = .ok (.iconst 3, 1) := by decide +kernel
theorem dL_law_134 : decode cL_law 134 = .ok (.iadd, 1) := by decide +kernel
theorem dL_law_135 : decode cL_law 135 = .ok (.iaload, 1) := by decide +kernel
theorem dL_law_136 : decode cL_law 136 = .ok (.aload_n 0, 1) := by decide +kernel
theorem dL_law_137 : decode cL_law 137 = .ok (.iload_n 3, 1) := by decide +kernel
theorem dL_law_138 : decode cL_law 138 = .ok (.iconst 4, 1) := by decide +kernel
theorem dL_law_139 : decode cL_law 139 = .ok (.iadd, 1) := by decide +kernel
theorem dL_law_140 : decode cL_law 140 = .ok (.iaload, 1) := by decide +kernel
theorem dL_law_141 : decode cL_law 141 = .ok (.aload_n 0, 1) := by decide +kernel
theorem dL_law_142 : decode cL_law 142 = .ok (.iload_n 3, 1) := by decide +kernel
theorem dL_law_143 : decode cL_law 143 = .ok (.iconst 5, 1) := by decide +kernel
theorem dL_law_144 : decode cL_law 144 = .ok (.iadd, 1) := by decide +kernel
theorem dL_law_145 : decode cL_law 145 = .ok (.iaload, 1) := by decide +kernel
theorem dL_law_146 : decode cL_law 146 = .ok (.invokevirtual 13, 3) := by decide +kernel
theorem dL_law_149 : decode cL_law 149 = .ok (.aload_n 2, 1) := by decide +kernel
theorem dL_law_150 : decode cL_law 150 = .ok (.aload_n 0, 1) := by decide +kernel
theorem dL_law_151 : decode cL_law 151 = .ok (.iload_n 3, 1) := by decide +kernel
theorem dL_law_152 : decode cL_law 152 = .ok (.iconst 1, 1) := by decide +kernel
theorem dL_law_153 : decode cL_law 153 = .ok (.iadd, 1) := by decide +kernel
theorem dL_law_154 : decode cL_law 154 = .ok (.iaload, 1) := by decide +kernel
theorem dL_law_155 : decode cL_law 155 = .ok (.aload_n 0, 1) := by decide +kernel
theorem dL_law_156 : decode cL_law 156 = .ok (.iload_n 3, 1) := by decide +kernel
theorem dL_law_157 : decode cL_law 157 = .ok (.iconst 2, 1) := by decide +kernel
theorem dL_law_158 : decode cL_law 158 = .ok (.iadd, 1) := by decide +kernel
theorem dL_law_159 : decode cL_law 159 = .ok (.iaload, 1) := by decide +kernel
theorem dL_law_160 : decode cL_law 160 = .ok (.aload_n 0, 1) := by decide +kernel
theorem dL_law_161 : decode cL_law 161 = .ok (.iload_n 3, 1) := by decide +kernel
theorem dL_law_162 : decode cL_law 162 = .ok (.iconst 3, 1) := by decide +kernel
theorem dL_law_163 : decode cL_law 163 = .ok (.iadd, 1) := by decide +kernel
theorem dL_law_164 : decode cL_law 164 = .ok (.iaload, 1) := by decide +kernel
theorem dL_law_165 : decode cL_law 165 = .ok (.aload_n 0, 1) := by decide +kernel
theorem dL_law_166 : decode cL_law 166 = .ok (.iload_n 3, 1) := by decide +kernel
theorem dL_law_167 : decode cL_law 167 = .ok (.iconst 4, 1) := by decide +kernel
theorem dL_law_168 : decode cL_law 168 = .ok (.iadd, 1) := by decide +kernel
theorem dL_law_169 : decode cL_law 169 = .ok (.iaload, 1) := by decide +kernel
theorem dL_law_170 : decode cL_law 170 = .ok (.aload_n 0, 1) := by decide +kernel
theorem dL_law_171 : decode cL_law 171 = .ok (.iload_n 3, 1) := by decide +kernel
theorem dL_law_172 : decode cL_law 172 = .ok (.iconst 5, 1) := by decide +kernel
theorem dL_law_173 : decode cL_law 173 = .ok (.iadd, 1) := by decide +kernel
theorem dL_law_174 : decode cL_law 174 = .ok (.iaload, 1) := by decide +kernel
theorem dL_law_175 : decode cL_law 175 = .ok (.invokevirtual 17, 3) := by decide +kernel
theorem dL_law_178 : decode cL_law 178 = .ok (.if_icmp .eq 591, 3) := by decide +kernel
theorem dL_law_181 : decode cL_law 181 = .ok (.iconst 0, 1) := by decide +kernel
theorem dL_law_182 : decode cL_law 182 = .ok (.ireturn, 1) := by decide +kernel
theorem dL_law_183 : decode cL_law 183 = .ok (.aload_n 1, 1) := by decide +kernel
theorem dL_law_184 : decode cL_law 184 = .ok (.aload_n 0, 1) := by decide +kernel
theorem dL_law_185 : decode cL_law 185 = .ok (.iload_n 3, 1) := by decide +kernel
theorem dL_law_186 : decode cL_law 186 = .ok (.iconst 1, 1) := by decide +kernel
theorem dL_law_187 : decode cL_law 187 = .ok (.iadd, 1) := by decide +kernel
theorem dL_law_188 : decode cL_law 188 = .ok (.iaload, 1) := by decide +kernel
theorem dL_law_189 : decode cL_law 189 = .ok (.invokevirtual 18, 3) := by decide +kernel
theorem dL_law_192 : decode cL_law 192 = .ok (.aload_n 2, 1) := by decide +kernel
theorem dL_law_193 : decode cL_law 193 = .ok (.aload_n 0, 1) := by decide +kernel
theorem dL_law_194 : decode cL_law 194 = .ok (.iload_n 3, 1) := by decide +kernel
theorem dL_law_195 : decode cL_law 195 = .ok (.iconst 1, 1) := by decide +kernel
theorem dL_law_196 : decode cL_law 196 = .ok (.iadd, 1) := by decide +kernel
theorem dL_law_197 : decode cL_law 197 = .ok (.iaload, 1) := by decide +kernel
theorem dL_law_198 : decode cL_law 198 = .ok (.invokevirtual 22, 3) := by decide +kernel
theorem dL_law_201 : decode cL_law 201 = .ok (.if_icmp .eq 568, 3) := by decide +kernel
theorem dL_law_204 : decode cL_law 204 = .ok (.iconst 0, 1) := by decide +kernel
theorem dL_law_205 : decode cL_law 205 = .ok (.ireturn, 1) := by decide +kernel
theorem dL_law_206 : decode cL_law 206 = .ok (.aload_n 1, 1) := by decide +kernel
theorem dL_law_207 : decode cL_law 207 = .ok (.aload_n 0, 1) := by decide +kernel
theorem dL_law_208 : decode cL_law 208 = .ok (.iload_n 3, 1) := by decide +kernel
theorem dL_law_209 : decode cL_law 209 = .ok (.iconst 1, 1) := by decide +kernel
theorem dL_law_210 : decode cL_law 210 = .ok (.iadd, 1) := by decide +kernel
theorem dL_law_211 : decode cL_law 211 = .ok (.iaload, 1) := by decide +kernel
theorem dL_law_212 : decode cL_law 212 = .ok (.invokevirtual 23, 3) := by decide +kernel
theorem dL_law_215 : decode cL_law 215 = .ok (.aload_n 2, 1) := by decide +kernel
theorem dL_law_216 : decode cL_law 216 = .ok (.aload_n 0, 1) := by decide +kernel
theorem dL_law_217 : decode cL_law 217 = .ok (.iload_n 3, 1) := by decide +kernel
theorem dL_law_218 : decode cL_law 218 = .ok (.iconst 1, 1) := by decide +kernel
theorem dL_law_219 : decode cL_law 219 = .ok (.iadd, 1) := by decide +kernel
theorem dL_law_220 : decode cL_law 220 = .ok (.iaload, 1) := by decide +kernel
theorem dL_law_221 : decode cL_law 221 = .ok (.invokevirtual 26, 3) := by decide +kernel
theorem dL_law_224 : decode cL_law 224 = .ok (.if_icmp .eq 545, 3) := by decide +kernel
theorem dL_law_227 : decode cL_law 227 = .ok (.iconst 0, 1) := by decide +kernel
theorem dL_law_228 : decode cL_law 228 = .ok (.ireturn, 1) := by decide +kernel
theorem dL_law_229 : decode cL_law 229 = .ok (.aload_n 1, 1) := by decide +kernel
theorem dL_law_230 : decode cL_law 230 = .ok (.aload_n 0, 1) := by decide +kernel
theorem dL_law_231 : decode cL_law 231 = .ok (.iload_n 3, 1) := by decide +kernel
theorem dL_law_232 : decode cL_law 232 = .ok (.iconst 1, 1) := by decide +kernel
theorem dL_law_233 : decode cL_law 233 = .ok (.iadd, 1) := by decide +kernel
theorem dL_law_234 : decode cL_law 234 = .ok (.iaload, 1) := by decide +kernel
theorem dL_law_235 : decode cL_law 235 = .ok (.aload_n 0, 1) := by decide +kernel
theorem dL_law_236 : decode cL_law 236 = .ok (.iload_n 3, 1) := by decide +kernel
theorem dL_law_237 : decode cL_law 237 = .ok (.iconst 2, 1) := by decide +kernel
theorem dL_law_238 : decode cL_law 238 = .ok (.iadd, 1) := by decide +kernel
theorem dL_law_239 : decode cL_law 239 = .ok (.iaload, 1) := by decide +kernel
theorem dL_law_240 : decode cL_law 240 = .ok (.aload_n 0, 1) := by decide +kernel
theorem dL_law_241 : decode cL_law 241 = .ok (.iload_n 3, 1) := by decide +kernel
theorem dL_law_242 : decode cL_law 242 = .ok (.iconst 3, 1) := by decide +kernel
theorem dL_law_243 : decode cL_law 243 = .ok (.iadd, 1) := by decide +kernel
theorem dL_law_244 : decode cL_law 244 = .ok (.iaload, 1) := by decide +kernel
theorem dL_law_245 : decode cL_law 245 = .ok (.invokevirtual 27, 3) := by decide +kernel
theorem dL_law_248 : decode cL_law 248 = .ok (.aload_n 2, 1) := by decide +kernel
theorem dL_law_249 : decode cL_law 249 = .ok (.aload_n 0, 1) := by decide +kernel
theorem dL_law_250 : decode cL_law 250 = .ok (.iload_n 3, 1) := by decide +kernel
theorem dL_law_251 : decode cL_law 251 = .ok (.iconst 1, 1) := by decide +kernel
theorem dL_law_252 : decode cL_law 252 = .ok (.iadd, 1) := by decide +kernel
theorem dL_law_253 : decode cL_law 253 = .ok (.iaload, 1) := by decide +kernel
theorem dL_law_254 : decode cL_law 254 = .ok (.aload_n 0, 1) := by decide +kernel
theorem dL_law_255 : decode cL_law 255 = .ok (.iload_n 3, 1) := by decide +kernel
theorem dL_law_256 : decode cL_law 256 = .ok (.iconst 2, 1) := by decide +kernel
theorem dL_law_257 : decode cL_law 257 = .ok (.iadd, 1) := by decide +kernel
theorem dL_law_258 : decode cL_law 258 = .ok (.iaload, 1) := by decide +kernel
theorem dL_law_259 : decode cL_law 259 = .ok (.aload_n 0, 1) := by decide +kernel
theorem dL_law_260 : decode cL_law 260 = .ok (.iload_n 3, 1) := by decide +kernel
theorem dL_law_261 : decode cL_law 261 = .ok (.iconst 3, 1) := by decide +kernel
theorem dL_law_262 : decode cL_law 262 = .ok (.iadd, 1) := by decide +kernel
theorem dL_law_263 : decode cL_law 263 = .ok (.iaload, 1) := by decide +kernel
theorem dL_law_264 : decode cL_law 264 = .ok (.invokevirtual 31, 3) := by decide +kernel
theorem dL_law_267 : decode cL_law 267 = .ok (.if_icmp .eq 502, 3) := by decide +kernel
theorem dL_law_270 : decode cL_law 270 = .ok (.iconst 0, 1) := by decide +kernel
theorem dL_law_271 : decode cL_law 271 = .ok (.ireturn, 1) := by decide +kernel
theorem dL_law_272 : decode cL_law 272 = .ok (.aload_n 1, 1) := by decide +kernel
theorem dL_law_273 : decode cL_law 273 = .ok (.aload_n 0, 1) := by decide +kernel
theorem dL_law_274 : decode cL_law 274 = .ok (.iload_n 3, 1) := by decide +kernel
theorem dL_law_275 : decode cL_law 275 = .ok (.iconst 1, 1) := by decide +kernel
theorem dL_law_276 : decode cL_law 276 = .ok (.iadd, 1) := by decide +kernel
theorem dL_law_277 : decode cL_law 277 = .ok (.iaload, 1) := by decide +kernel
theorem dL_law_278 : decode cL_law 278 = .ok (.aload_n 0, 1) := by decide +kernel
theorem dL_law_279 : decode cL_law 279 = .ok (.iload_n 3, 1) := by decide +kernel
theorem dL_law_280 : decode cL_law 280 = .ok (.iconst 2, 1) := by decide +kernel
theorem dL_law_281 : decode cL_law 281 = .ok (.iadd, 1) := by decide +kernel
theorem dL_law_282 : decode cL_law 282 = .ok (.iaload, 1) := by decide +kernel
theorem dL_law_283 : decode cL_law 283 = .ok (.aload_n 0, 1) := by decide +kernel
theorem dL_law_284 : decode cL_law 284 = .ok (.iload_n 3, 1) := by decide +kernel
theorem dL_law_285 : decode cL_law 285 = .ok (.iconst 3, 1) := by decide +kernel
theorem dL_law_286 : decode cL_law 286 = .ok (.iadd, 1) := by decide +kernel
theorem dL_law_287 : decode cL_law 287 = .ok (.iaload, 1) := by decide +kernel
theorem dL_law_288 : decode cL_law 288 = .ok (.aload_n 0, 1) := by decide +kernel
theorem dL_law_289 : decode cL_law 289 = .ok (.iload_n 3, 1) := by decide +kernel
theorem dL_law_290 : decode cL_law 290 = .ok (.iconst 4, 1) := by decide +kernel
theorem dL_law_291 : decode cL_law 291 = .ok (.iadd, 1) := by decide +kernel
theorem dL_law_292 : decode cL_law 292 = .ok (.iaload, 1) := by decide +kernel
theorem dL_law_293 : decode cL_law 293 = .ok (.invokevirtual 32, 3) := by decide +kernel
theorem dL_law_296 : decode cL_law 296 = .ok (.aload_n 2, 1) := by decide +kernel
theorem dL_law_297 : decode cL_law 297 = .ok (.aload_n 0, 1) := by decide +kernel
theorem dL_law_298 : decode cL_law 298 = .ok (.iload_n 3, 1) := by decide +kernel
theorem dL_law_299 : decode cL_law 299 = .ok (.iconst 1, 1) := by decide +kernel
theorem dL_law_300 : decode cL_law 300 = .ok (.iadd, 1) := by decide +kernel
theorem dL_law_301 : decode cL_law 301 = .ok (.iaload, 1) := by decide +kernel
theorem dL_law_302 : decode cL_law 302 = .ok (.aload_n 0, 1) := by decide +kernel
theorem dL_law_303 : decode cL_law 303 = .ok (.iload_n 3, 1) := by decide +kernel
theorem dL_law_304 : decode cL_law 304 = .ok (.iconst 2, 1) := by decide +kernel
theorem dL_law_305 : decode cL_law 305 = .ok (.iadd, 1) := by decide +kernel
theorem dL_law_306 : decode cL_law 306 = .ok (.iaload, 1) := by decide +kernel
theorem dL_law_307 : decode cL_law 307 = .ok (.aload_n 0, 1) := by decide +kernel
theorem dL_law_308 : decode cL_law 308 = .ok (.iload_n 3, 1) := by decide +kernel
theorem dL_law_309 : decode cL_law 309 = .ok (.iconst 3, 1) := by decide +kernel
theorem dL_law_310 : decode cL_law 310 = .ok (.iadd, 1) := by decide +kernel
theorem dL_law_311 : decode cL_law 311 = .ok (.iaload, 1) := by decide +kernel
theorem dL_law_312 : decode cL_law 312 = .ok (.aload_n 0, 1) := by decide +kernel
theorem dL_law_313 : decode cL_law 313 = .ok (.iload_n 3, 1) := by decide +kernel
theorem dL_law_314 : decode cL_law 314 = .ok (.iconst 4, 1) := by decide +kernel
theorem dL_law_315 : decode cL_law 315 = .ok (.iadd, 1) := by decide +kernel
theorem dL_law_316 : decode cL_law 316 = .ok (.iaload, 1) := by decide +kernel
theorem dL_law_317 : decode cL_law 317 = .ok (.invokevirtual 36, 3) := by decide +kernel
theorem dL_law_320 : decode cL_law 320 = .ok (.if_icmp .eq 449, 3) := by decide +kernel
theorem dL_law_323 : decode cL_law 323 = .ok (.iconst 0, 1) := by decide +kernel
theorem dL_law_324 : decode cL_law 324 = .ok (.ireturn, 1) := by decide +kernel
theorem dL_law_325 : decode cL_law 325 = .ok (.aload_n 1, 1) := by decide +kernel
theorem dL_law_326 : decode cL_law 326 = .ok (.aload_n 0, 1) := by decide +kernel
theorem dL_law_327 : decode cL_law 327 = .ok (.iload_n 3, 1) := by decide +kernel
theorem dL_law_328 : decode cL_law 328 = .ok (.iconst 1, 1) := by decide +kernel
theorem dL_law_329 : decode cL_law 329 = .ok (.iadd, 1) := by decide +kernel
theorem dL_law_330 : decode cL_law 330 = .ok (.iaload, 1) := by decide +kernel
theorem dL_law_331 : decode cL_law 331 = .ok (.i2l, 1) := by decide +kernel
theorem dL_law_332 : decode cL_law 332 = .ok (.bipush 32, 2) := by decide +kernel
theorem dL_law_334 : decode cL_law 334 = .ok (.lshl, 1) := by decide +kernel
theorem dL_law_335 : decode cL_law 335 = .ok (.aload_n 0, 1) := by decide +kernel
theorem dL_law_336 : decode cL_law 336 = .ok (.iload_n 3, 1) := by decide +kernel
theorem dL_law_337 : decode cL_law 337 = .ok (.iconst 2, 1) := by decide +kernel
theorem dL_law_338 : decode cL_law 338 = .ok (.iadd, 1) := by decide +kernel
theorem dL_law_339 : decode cL_law 339 = .ok (.iaload, 1) := by decide +kernel
theorem dL_law_340 : decode cL_law 340 = .ok (.i2l, 1) := by decide +kernel
theorem dL_law_341 : decode cL_law 341 = .ok (.ldc2_w 37, 3) := by decide +kernel
theorem dL_law_344 : decode cL_law 344 = .ok (.land, 1) := by decide +kernel
theorem dL_law_345 : decode cL_law 345 = .ok (.lor, 1) := by decide +kernel
theorem dL_law_346 : decode cL_law 346 = .ok (.invokevirtual 39, 3) := by decide +kernel
theorem dL_law_349 : decode cL_law 349 = .ok (.aload_n 2, 1) := by decide +kernel
theorem dL_law_350 : decode cL_law 350 = .ok (.aload_n 0, 1) := by decide +kernel
theorem dL_law_351 : decode cL_law 351 = .ok (.iload_n 3, 1) := by decide +kernel
theorem dL_law_352 : decode cL_law 352 = .ok (.iconst 1, 1) := by decide +kernel
theorem dL_law_353 : decode cL_law 353 = .ok (.iadd, 1) := by decide +kernel
theorem dL_law_354 : decode cL_law 354 = .ok (.iaload, 1) := by decide +kernel
theorem dL_law_355 : decode cL_law 355 = .ok (.i2l, 1) := by decide +kernel
theorem dL_law_356 : decode cL_law 356 = .ok (.bipush 32, 2) := by decide +kernel
theorem dL_law_358 : decode cL_law 358 = .ok (.lshl, 1) := by decide +kernel
theorem dL_law_359 : decode cL_law 359 = .ok (.aload_n 0, 1) := by decide +kernel
theorem dL_law_360 : decode cL_law 360 = .ok (.iload_n 3, 1) := by decide +kernel
theorem dL_law_361 : decode cL_law 361 = .ok (.iconst 2, 1) := by decide +kernel
theorem dL_law_362 : decode cL_law 362 = .ok (.iadd, 1) := by decide +kernel
theorem dL_law_363 : decode cL_law 363 = .ok (.iaload, 1) := by decide +kernel
theorem dL_law_364 : decode cL_law 364 = .ok (.i2l, 1) := by decide +kernel
theorem dL_law_365 : decode cL_law 365 = .ok (.ldc2_w 37, 3) := by decide +kernel
theorem dL_law_368 : decode cL_law 368 = .ok (.land, 1) := by decide +kernel
theorem dL_law_369 : decode cL_law 369 = .ok (.lor, 1) := by decide +kernel
theorem dL_law_370 : decode cL_law 370 = .ok (.invokevirtual 43, 3) := by decide +kernel
theorem dL_law_373 : decode cL_law 373 = .ok (.if_icmp .eq 396, 3) := by decide +kernel
theorem dL_law_376 : decode cL_law 376 = .ok (.iconst 0, 1) := by decide +kernel
theorem dL_law_377 : decode cL_law 377 = .ok (.ireturn, 1) := by decide +kernel
theorem dL_law_378 : decode cL_law 378 = .ok (.aload_n 1, 1) := by decide +kernel
theorem dL_law_379 : decode cL_law 379 = .ok (.aload_n 0, 1) := by decide +kernel
theorem dL_law_380 : decode cL_law 380 = .ok (.iload_n 3, 1) := by decide +kernel
theorem dL_law_381 : decode cL_law 381 = .ok (.iconst 1, 1) := by decide +kernel
theorem dL_law_382 : decode cL_law 382 = .ok (.iadd, 1) := by decide +kernel
theorem dL_law_383 : decode cL_law 383 = .ok (.iaload, 1) := by decide +kernel
theorem dL_law_384 : decode cL_law 384 = .ok (.aload_n 0, 1) := by decide +kernel
theorem dL_law_385 : decode cL_law 385 = .ok (.iload_n 3, 1) := by decide +kernel
theorem dL_law_386 : decode cL_law 386 = .ok (.iconst 2, 1) := by decide +kernel
theorem dL_law_387 : decode cL_law 387 = .ok (.iadd, 1) := by decide +kernel
theorem dL_law_388 : decode cL_law 388 = .ok (.iaload, 1) := by decide +kernel
theorem dL_law_389 : decode cL_law 389 = .ok (.invokevirtual 44, 3) := by decide +kernel
theorem dL_law_392 : decode cL_law 392 = .ok (.aload_n 2, 1) := by decide +kernel
theorem dL_law_393 : decode cL_law 393 = .ok (.aload_n 0, 1) := by decide +kernel
theorem dL_law_394 : decode cL_law 394 = .ok (.iload_n 3, 1) := by decide +kernel
theorem dL_law_395 : decode cL_law 395 = .ok (.iconst 1, 1) := by decide +kernel
theorem dL_law_396 : decode cL_law 396 = .ok (.iadd, 1) := by decide +kernel
theorem dL_law_397 : decode cL_law 397 = .ok (.iaload, 1) := by decide +kernel
theorem dL_law_398 : decode cL_law 398 = .ok (.aload_n 0, 1) := by decide +kernel
theorem dL_law_399 : decode cL_law 399 = .ok (.iload_n 3, 1) := by decide +kernel
theorem dL_law_400 : decode cL_law 400 = .ok (.iconst 2, 1) := by decide +kernel
theorem dL_law_401 : decode cL_law 401 = .ok (.iadd, 1) := by decide +kernel
theorem dL_law_402 : decode cL_law 402 = .ok (.iaload, 1) := by decide +kernel
theorem dL_law_403 : decode cL_law 403 = .ok (.invokevirtual 48, 3) := by decide +kernel
theorem dL_law_406 : decode cL_law 406 = .ok (.if_icmp .eq 363, 3) := by decide +kernel
theorem dL_law_409 : decode cL_law 409 = .ok (.iconst 0, 1) := by decide +kernel
theorem dL_law_410 : decode cL_law 410 = .ok (.ireturn, 1) := by decide +kernel
theorem dL_law_411 : decode cL_law 411 = .ok (.aload_n 1, 1) := by decide +kernel
theorem dL_law_412 : decode cL_law 412 = .ok (.aload_n 0, 1) := by decide +kernel
theorem dL_law_413 : decode cL_law 413 = .ok (.iload_n 3, 1) := by decide +kernel
theorem dL_law_414 : decode cL_law 414 = .ok (.iconst 1, 1) := by decide +kernel
theorem dL_law_415 : decode cL_law 415 = .ok (.iadd, 1) := by decide +kernel
theorem dL_law_416 : decode cL_law 416 = .ok (.iaload, 1) := by decide +kernel
theorem dL_law_417 : decode cL_law 417 = .ok (.invokevirtual 49, 3) := by decide +kernel
theorem dL_law_420 : decode cL_law 420 = .ok (.aload_n 2, 1) := by decide +kernel
theorem dL_law_421 : decode cL_law 421 = .ok (.aload_n 0, 1) := by decide +kernel
theorem dL_law_422 : decode cL_law 422 = .ok (.iload_n 3, 1) := by decide +kernel
theorem dL_law_423 : decode cL_law 423 = .ok (.iconst 1, 1) := by decide +kernel
theorem dL_law_424 : decode cL_law 424 = .ok (.iadd, 1) := by decide +kernel
theorem dL_law_425 : decode cL_law 425 = .ok (.iaload, 1) := by decide +kernel
theorem dL_law_426 : decode cL_law 426 = .ok (.invokevirtual 52, 3) := by decide +kernel
theorem dL_law_429 : decode cL_law 429 = .ok (.if_icmp .eq 340, 3) := by decide +kernel
theorem dL_law_432 : decode cL_law 432 = .ok (.iconst 0, 1) := by decide +kernel
theorem dL_law_433 : decode cL_law 433 = .ok (.ireturn, 1) := by decide +kernel
theorem dL_law_434 : decode cL_law 434 = .ok (.aload_n 1, 1) := by decide +kernel
theorem dL_law_435 : decode cL_law 435 = .ok (.aload_n 0, 1) := by decide +kernel
theorem dL_law_436 : decode cL_law 436 = .ok (.iload_n 3, 1) := by decide +kernel
theorem dL_law_437 : decode cL_law 437 = .ok (.iconst 1, 1) := by decide +kernel
theorem dL_law_438 : decode cL_law 438 = .ok (.iadd, 1) := by decide +kernel
theorem dL_law_439 : decode cL_law 439 = .ok (.iaload, 1) := by decide +kernel
theorem dL_law_440 : decode cL_law 440 = .ok (.aload_n 0, 1) := by decide +kernel
theorem dL_law_441 : decode cL_law 441 = .ok (.iload_n 3, 1) := by decide +kernel
theorem dL_law_442 : decode cL_law 442 = .ok (.iconst 2, 1) := by decide +kernel
theorem dL_law_443 : decode cL_law 443 = .ok (.iadd, 1) := by decide +kernel
theorem dL_law_444 : decode cL_law 444 = .ok (.iaload, 1) := by decide +kernel
theorem dL_law_445 : decode cL_law 445 = .ok (.aload_n 0, 1) := by decide +kernel
theorem dL_law_446 : decode cL_law 446 = .ok (.iload_n 3, 1) := by decide +kernel
theorem dL_law_447 : decode cL_law 447 = .ok (.iconst 3, 1) := by decide +kernel
theorem dL_law_448 : decode cL_law 448 = .ok (.iadd, 1) := by decide +kernel
theorem dL_law_449 : decode cL_law 449 = .ok (.iaload, 1) := by decide +kernel
theorem dL_law_450 : decode cL_law 450 = .ok (.invokevirtual 53, 3) := by decide +kernel
theorem dL_law_453 : decode cL_law 453 = .ok (.aload_n 2, 1) := by decide +kernel
theorem dL_law_454 : decode cL_law 454 = .ok (.aload_n 0, 1) := by decide +kernel
theorem dL_law_455 : decode cL_law 455 = .ok (.iload_n 3, 1) := by decide +kernel
theorem dL_law_456 : decode cL_law 456 = .ok (.iconst 1, 1) := by decide +kernel
theorem dL_law_457 : decode cL_law 457 = .ok (.iadd, 1) := by decide +kernel
theorem dL_law_458 : decode cL_law 458 = .ok (.iaload, 1) := by decide +kernel
theorem dL_law_459 : decode cL_law 459 = .ok (.aload_n 0, 1) := by decide +kernel
theorem dL_law_460 : decode cL_law 460 = .ok (.iload_n 3, 1) := by decide +kernel
theorem dL_law_461 : decode cL_law 461 = .ok (.iconst 2, 1) := by decide +kernel
theorem dL_law_462 : decode cL_law 462 = .ok (.iadd, 1) := by decide +kernel
theorem dL_law_463 : decode cL_law 463 = .ok (.iaload, 1) := by decide +kernel
theorem dL_law_464 : decode cL_law 464 = .ok (.aload_n 0, 1) := by decide +kernel
theorem dL_law_465 : decode cL_law 465 = .ok (.iload_n 3, 1) := by decide +kernel
theorem dL_law_466 : decode cL_law 466 = .ok (.iconst 3, 1) := by decide +kernel
theorem dL_law_467 : decode cL_law 467 = .ok (.iadd, 1) := by decide +kernel
theorem dL_law_468 : decode cL_law 468 = .ok (.iaload, 1) := by decide +kernel
theorem dL_law_469 : decode cL_law 469 = .ok (.invokevirtual 57, 3) := by decide +kernel
theorem dL_law_472 : decode cL_law 472 = .ok (.if_icmp .eq 297, 3) := by decide +kernel
theorem dL_law_475 : decode cL_law 475 = .ok (.iconst 0, 1) := by decide +kernel
theorem dL_law_476 : decode cL_law 476 = .ok (.ireturn, 1) := by decide +kernel
theorem dL_law_477 : decode cL_law 477 = .ok (.aload_n 1, 1) := by decide +kernel
theorem dL_law_478 : decode cL_law 478 = .ok (.aload_n 0, 1) := by decide +kernel
theorem dL_law_479 : decode cL_law 479 = .ok (.iload_n 3, 1) := by decide +kernel
theorem dL_law_480 : decode cL_law 480 = .ok (.iconst 1, 1) := by decide +kernel
theorem dL_law_481 : decode cL_law 481 = .ok (.iadd, 1) := by decide +kernel
theorem dL_law_482 : decode cL_law 482 = .ok (.iaload, 1) := by decide +kernel
theorem dL_law_483 : decode cL_law 483 = .ok (.aload_n 0, 1) := by decide +kernel
theorem dL_law_484 : decode cL_law 484 = .ok (.iload_n 3, 1) := by decide +kernel
theorem dL_law_485 : decode cL_law 485 = .ok (.iconst 2, 1) := by decide +kernel
theorem dL_law_486 : decode cL_law 486 = .ok (.iadd, 1) := by decide +kernel
theorem dL_law_487 : decode cL_law 487 = .ok (.iaload, 1) := by decide +kernel
theorem dL_law_488 : decode cL_law 488 = .ok (.invokevirtual 58, 3) := by decide +kernel
theorem dL_law_491 : decode cL_law 491 = .ok (.aload_n 2, 1) := by decide +kernel
theorem dL_law_492 : decode cL_law 492 = .ok (.aload_n 0, 1) := by decide +kernel
theorem dL_law_493 : decode cL_law 493 = .ok (.iload_n 3, 1) := by decide +kernel
theorem dL_law_494 : decode cL_law 494 = .ok (.iconst 1, 1) := by decide +kernel
theorem dL_law_495 : decode cL_law 495 = .ok (.iadd, 1) := by decide +kernel
theorem dL_law_496 : decode cL_law 496 = .ok (.iaload, 1) := by decide +kernel
theorem dL_law_497 : decode cL_law 497 = .ok (.aload_n 0, 1) := by decide +kernel
theorem dL_law_498 : decode cL_law 498 = .ok (.iload_n 3, 1) := by decide +kernel
theorem dL_law_499 : decode cL_law 499 = .ok (.iconst 2, 1) := by decide +kernel
theorem dL_law_500 : decode cL_law 500 = .ok (.iadd, 1) := by decide +kernel
theorem dL_law_501 : decode cL_law 501 = .ok (.iaload, 1) := by decide +kernel
theorem dL_law_502 : decode cL_law 502 = .ok (.invokevirtual 62, 3) := by decide +kernel
theorem dL_law_505 : decode cL_law 505 = .ok (.lcmp, 1) := by decide +kernel
theorem dL_law_506 : decode cL_law 506 = .ok (.ifCond .eq 263, 3) := by decide +kernel
theorem dL_law_509 : decode cL_law 509 = .ok (.iconst 0, 1) := by decide +kernel
theorem dL_law_510 : decode cL_law 510 = .ok (.ireturn, 1) := by decide +kernel
theorem dL_law_511 : decode cL_law 511 = .ok (.aload_n 1, 1) := by decide +kernel
theorem dL_law_512 : decode cL_law 512 = .ok (.aload_n 0, 1) := by decide +kernel
theorem dL_law_513 : decode cL_law 513 = .ok (.iload_n 3, 1) := by decide +kernel
theorem dL_law_514 : decode cL_law 514 = .ok (.iconst 1, 1) := by decide +kernel
theorem dL_law_515 : decode cL_law 515 = .ok (.iadd, 1) := by decide +kernel
theorem dL_law_516 : decode cL_law 516 = .ok (.iaload, 1) := by decide +kernel
theorem dL_law_517 : decode cL_law 517 = .ok (.aload_n 0, 1) := by decide +kernel
theorem dL_law_518 : decode cL_law 518 = .ok (.iload_n 3, 1) := by decide +kernel
theorem dL_law_519 : decode cL_law 519 = .ok (.iconst 2, 1) := by decide +kernel
theorem dL_law_520 : decode cL_law 520 = .ok (.iadd, 1) := by decide +kernel
theorem dL_law_521 : decode cL_law 521 = .ok (.iaload, 1) := by decide +kernel
theorem dL_law_522 : decode cL_law 522 = .ok (.invokevirtual 63, 3) := by decide +kernel
theorem dL_law_525 : decode cL_law 525 = .ok (.aload_n 2, 1) := by decide +kernel
theorem dL_law_526 : decode cL_law 526 = .ok (.aload_n 0, 1) := by decide +kernel
theorem dL_law_527 : decode cL_law 527 = .ok (.iload_n 3, 1) := by decide +kernel
theorem dL_law_528 : decode cL_law 528 = .ok (.iconst 1, 1) := by decide +kernel
theorem dL_law_529 : decode cL_law 529 = .ok (.iadd, 1) := by decide +kernel
theorem dL_law_530 : decode cL_law 530 = .ok (.iaload, 1) := by decide +kernel
theorem dL_law_531 : decode cL_law 531 = .ok (.aload_n 0, 1) := by decide +kernel
theorem dL_law_532 : decode cL_law 532 = .ok (.iload_n 3, 1) := by decide +kernel
theorem dL_law_533 : decode cL_law 533 = .ok (.iconst 2, 1) := by decide +kernel
theorem dL_law_534 : decode cL_law 534 = .ok (.iadd, 1) := by decide +kernel
theorem dL_law_535 : decode cL_law 535 = .ok (.iaload, 1) := by decide +kernel
theorem dL_law_536 : decode cL_law 536 = .ok (.invokevirtual 66, 3) := by decide +kernel
theorem dL_law_539 : decode cL_law 539 = .ok (.if_icmp .eq 230, 3) := by decide +kernel
theorem dL_law_542 : decode cL_law 542 = .ok (.iconst 0, 1) := by decide +kernel
theorem dL_law_543 : decode cL_law 543 = .ok (.ireturn, 1) := by decide +kernel
theorem dL_law_544 : decode cL_law 544 = .ok (.aload_n 1, 1) := by decide +kernel
theorem dL_law_545 : decode cL_law 545 = .ok (.aload_n 0, 1) := by decide +kernel
theorem dL_law_546 : decode cL_law 546 = .ok (.iload_n 3, 1) := by decide +kernel
theorem dL_law_547 : decode cL_law 547 = .ok (.iconst 1, 1) := by decide +kernel
theorem dL_law_548 : decode cL_law 548 = .ok (.iadd, 1) := by decide +kernel
theorem dL_law_549 : decode cL_law 549 = .ok (.iaload, 1) := by decide +kernel
theorem dL_law_550 : decode cL_law 550 = .ok (.aload_n 0, 1) := by decide +kernel
theorem dL_law_551 : decode cL_law 551 = .ok (.iload_n 3, 1) := by decide +kernel
theorem dL_law_552 : decode cL_law 552 = .ok (.iconst 2, 1) := by decide +kernel
theorem dL_law_553 : decode cL_law 553 = .ok (.iadd, 1) := by decide +kernel
theorem dL_law_554 : decode cL_law 554 = .ok (.iaload, 1) := by decide +kernel
theorem dL_law_555 : decode cL_law 555 = .ok (.invokevirtual 67, 3) := by decide +kernel
theorem dL_law_558 : decode cL_law 558 = .ok (.aload_n 2, 1) := by decide +kernel
theorem dL_law_559 : decode cL_law 559 = .ok (.aload_n 0, 1) := by decide +kernel
theorem dL_law_560 : decode cL_law 560 = .ok (.iload_n 3, 1) := by decide +kernel
theorem dL_law_561 : decode cL_law 561 = .ok (.iconst 1, 1) := by decide +kernel
theorem dL_law_562 : decode cL_law 562 = .ok (.iadd, 1) := by decide +kernel
theorem dL_law_563 : decode cL_law 563 = .ok (.iaload, 1) := by decide +kernel
theorem dL_law_564 : decode cL_law 564 = .ok (.aload_n 0, 1) := by decide +kernel
theorem dL_law_565 : decode cL_law 565 = .ok (.iload_n 3, 1) := by decide +kernel
theorem dL_law_566 : decode cL_law 566 = .ok (.iconst 2, 1) := by decide +kernel
theorem dL_law_567 : decode cL_law 567 = .ok (.iadd, 1) := by decide +kernel
theorem dL_law_568 : decode cL_law 568 = .ok (.iaload, 1) := by decide +kernel
theorem dL_law_569 : decode cL_law 569 = .ok (.invokevirtual 71, 3) := by decide +kernel
theorem dL_law_572 : decode cL_law 572 = .ok (.if_icmp .eq 197, 3) := by decide +kernel
theorem dL_law_575 : decode cL_law 575 = .ok (.iconst 0, 1) := by decide +kernel
theorem dL_law_576 : decode cL_law 576 = .ok (.ireturn, 1) := by decide +kernel
theorem dL_law_577 : decode cL_law 577 = .ok (.aload_n 1, 1) := by decide +kernel
theorem dL_law_578 : decode cL_law 578 = .ok (.aload_n 0, 1) := by decide +kernel
theorem dL_law_579 : decode cL_law 579 = .ok (.iload_n 3, 1) := by decide +kernel
theorem dL_law_580 : decode cL_law 580 = .ok (.iconst 1, 1) := by decide +kernel
theorem dL_law_581 : decode cL_law 581 = .ok (.iadd, 1) := by decide +kernel
theorem dL_law_582 : decode cL_law 582 = .ok (.iaload, 1) := by decide +kernel
theorem dL_law_583 : decode cL_law 583 = .ok (.aload_n 0, 1) := by decide +kernel
theorem dL_law_584 : decode cL_law 584 = .ok (.iload_n 3, 1) := by decide +kernel
theorem dL_law_585 : decode cL_law 585 = .ok (.iconst 2, 1) := by decide +kernel
theorem dL_law_586 : decode cL_law 586 = .ok (.iadd, 1) := by decide +kernel
theorem dL_law_587 : decode cL_law 587 = .ok (.iaload, 1) := by decide +kernel
theorem dL_law_588 : decode cL_law 588 = .ok (.invokevirtual 72, 3) := by decide +kernel
theorem dL_law_591 : decode cL_law 591 = .ok (.aload_n 2, 1) := by decide +kernel
theorem dL_law_592 : decode cL_law 592 = .ok (.aload_n 0, 1) := by decide +kernel
theorem dL_law_593 : decode cL_law 593 = .ok (.iload_n 3, 1) := by decide +kernel
theorem dL_law_594 : decode cL_law 594 = .ok (.iconst 1, 1) := by decide +kernel
theorem dL_law_595 : decode cL_law 595 = .ok (.iadd, 1) := by decide +kernel
theorem dL_law_596 : decode cL_law 596 = .ok (.iaload, 1) := by decide +kernel
theorem dL_law_597 : decode cL_law 597 = .ok (.aload_n 0, 1) := by decide +kernel
theorem dL_law_598 : decode cL_law 598 = .ok (.iload_n 3, 1) := by decide +kernel
theorem dL_law_599 : decode cL_law 599 = .ok (.iconst 2, 1) := by decide +kernel
theorem dL_law_600 : decode cL_law 600 = .ok (.iadd, 1) := by decide +kernel
theorem dL_law_601 : decode cL_law 601 = .ok (.iaload, 1) := by decide +kernel
theorem dL_law_602 : decode cL_law 602 = .ok (.invokevirtual 75, 3) := by decide +kernel
theorem dL_law_605 : decode cL_law 605 = .ok (.lcmp, 1) := by decide +kernel
theorem dL_law_606 : decode cL_law 606 = .ok (.ifCond .eq 163, 3) := by decide +kernel
theorem dL_law_609 : decode cL_law 609 = .ok (.iconst 0, 1) := by decide +kernel
theorem dL_law_610 : decode cL_law 610 = .ok (.ireturn, 1) := by decide +kernel
theorem dL_law_611 : decode cL_law 611 = .ok (.aload_n 1, 1) := by decide +kernel
theorem dL_law_612 : decode cL_law 612 = .ok (.aload_n 0, 1) := by decide +kernel
theorem dL_law_613 : decode cL_law 613 = .ok (.iload_n 3, 1) := by decide +kernel
theorem dL_law_614 : decode cL_law 614 = .ok (.iconst 1, 1) := by decide +kernel
theorem dL_law_615 : decode cL_law 615 = .ok (.iadd, 1) := by decide +kernel
theorem dL_law_616 : decode cL_law 616 = .ok (.iaload, 1) := by decide +kernel
theorem dL_law_617 : decode cL_law 617 = .ok (.invokevirtual 76, 3) := by decide +kernel
theorem dL_law_620 : decode cL_law 620 = .ok (.aload_n 2, 1) := by decide +kernel
theorem dL_law_621 : decode cL_law 621 = .ok (.aload_n 0, 1) := by decide +kernel
theorem dL_law_622 : decode cL_law 622 = .ok (.iload_n 3, 1) := by decide +kernel
theorem dL_law_623 : decode cL_law 623 = .ok (.iconst 1, 1) := by decide +kernel
theorem dL_law_624 : decode cL_law 624 = .ok (.iadd, 1) := by decide +kernel
theorem dL_law_625 : decode cL_law 625 = .ok (.iaload, 1) := by decide +kernel
theorem dL_law_626 : decode cL_law 626 = .ok (.invokevirtual 80, 3) := by decide +kernel
theorem dL_law_629 : decode cL_law 629 = .ok (.lcmp, 1) := by decide +kernel
theorem dL_law_630 : decode cL_law 630 = .ok (.ifCond .eq 139, 3) := by decide +kernel
theorem dL_law_633 : decode cL_law 633 = .ok (.iconst 0, 1) := by decide +kernel
theorem dL_law_634 : decode cL_law 634 = .ok (.ireturn, 1) := by decide +kernel
theorem dL_law_635 : decode cL_law 635 = .ok (.aload_n 1, 1) := by decide +kernel
theorem dL_law_636 : decode cL_law 636 = .ok (.aload_n 0, 1) := by decide +kernel
theorem dL_law_637 : decode cL_law 637 = .ok (.iload_n 3, 1) := by decide +kernel
theorem dL_law_638 : decode cL_law 638 = .ok (.iconst 1, 1) := by decide +kernel
theorem dL_law_639 : decode cL_law 639 = .ok (.iadd, 1) := by decide +kernel
theorem dL_law_640 : decode cL_law 640 = .ok (.iaload, 1) := by decide +kernel
theorem dL_law_641 : decode cL_law 641 = .ok (.aload_n 0, 1) := by decide +kernel
theorem dL_law_642 : decode cL_law 642 = .ok (.iload_n 3, 1) := by decide +kernel
theorem dL_law_643 : decode cL_law 643 = .ok (.iconst 2, 1) := by decide +kernel
theorem dL_law_644 : decode cL_law 644 = .ok (.iadd, 1) := by decide +kernel
theorem dL_law_645 : decode cL_law 645 = .ok (.iaload, 1) := by decide +kernel
theorem dL_law_646 : decode cL_law 646 = .ok (.invokevirtual 81, 3) := by decide +kernel
theorem dL_law_649 : decode cL_law 649 = .ok (.aload_n 2, 1) := by decide +kernel
theorem dL_law_650 : decode cL_law 650 = .ok (.aload_n 0, 1) := by decide +kernel
theorem dL_law_651 : decode cL_law 651 = .ok (.iload_n 3, 1) := by decide +kernel
theorem dL_law_652 : decode cL_law 652 = .ok (.iconst 1, 1) := by decide +kernel
theorem dL_law_653 : decode cL_law 653 = .ok (.iadd, 1) := by decide +kernel
theorem dL_law_654 : decode cL_law 654 = .ok (.iaload, 1) := by decide +kernel
theorem dL_law_655 : decode cL_law 655 = .ok (.aload_n 0, 1) := by decide +kernel
theorem dL_law_656 : decode cL_law 656 = .ok (.iload_n 3, 1) := by decide +kernel
theorem dL_law_657 : decode cL_law 657 = .ok (.iconst 2, 1) := by decide +kernel
theorem dL_law_658 : decode cL_law 658 = .ok (.iadd, 1) := by decide +kernel
theorem dL_law_659 : decode cL_law 659 = .ok (.iaload, 1) := by decide +kernel
theorem dL_law_660 : decode cL_law 660 = .ok (.invokevirtual 84, 3) := by decide +kernel
theorem dL_law_663 : decode cL_law 663 = .ok (.if_icmp .eq 106, 3) := by decide +kernel
theorem dL_law_666 : decode cL_law 666 = .ok (.iconst 0, 1) := by decide +kernel
theorem dL_law_667 : decode cL_law 667 = .ok (.ireturn, 1) := by decide +kernel
theorem dL_law_668 : decode cL_law 668 = .ok (.aload_n 1, 1) := by decide +kernel
theorem dL_law_669 : decode cL_law 669 = .ok (.aload_n 0, 1) := by decide +kernel
theorem dL_law_670 : decode cL_law 670 = .ok (.iload_n 3, 1) := by decide +kernel
theorem dL_law_671 : decode cL_law 671 = .ok (.iconst 1, 1) := by decide +kernel
theorem dL_law_672 : decode cL_law 672 = .ok (.iadd, 1) := by decide +kernel
theorem dL_law_673 : decode cL_law 673 = .ok (.iaload, 1) := by decide +kernel
theorem dL_law_674 : decode cL_law 674 = .ok (.aload_n 0, 1) := by decide +kernel
theorem dL_law_675 : decode cL_law 675 = .ok (.iload_n 3, 1) := by decide +kernel
theorem dL_law_676 : decode cL_law 676 = .ok (.iconst 2, 1) := by decide +kernel
theorem dL_law_677 : decode cL_law 677 = .ok (.iadd, 1) := by decide +kernel
theorem dL_law_678 : decode cL_law 678 = .ok (.iaload, 1) := by decide +kernel
theorem dL_law_679 : decode cL_law 679 = .ok (.invokevirtual 85, 3) := by decide +kernel
theorem dL_law_682 : decode cL_law 682 = .ok (.aload_n 2, 1) := by decide +kernel
theorem dL_law_683 : decode cL_law 683 = .ok (.aload_n 0, 1) := by decide +kernel
theorem dL_law_684 : decode cL_law 684 = .ok (.iload_n 3, 1) := by decide +kernel
theorem dL_law_685 : decode cL_law 685 = .ok (.iconst 1, 1) := by decide +kernel
theorem dL_law_686 : decode cL_law 686 = .ok (.iadd, 1) := by decide +kernel
theorem dL_law_687 : decode cL_law 687 = .ok (.iaload, 1) := by decide +kernel
theorem dL_law_688 : decode cL_law 688 = .ok (.aload_n 0, 1) := by decide +kernel
theorem dL_law_689 : decode cL_law 689 = .ok (.iload_n 3, 1) := by decide +kernel
theorem dL_law_690 : decode cL_law 690 = .ok (.iconst 2, 1) := by decide +kernel
theorem dL_law_691 : decode cL_law 691 = .ok (.iadd, 1) := by decide +kernel
theorem dL_law_692 : decode cL_law 692 = .ok (.iaload, 1) := by decide +kernel
theorem dL_law_693 : decode cL_law 693 = .ok (.invokevirtual 88, 3) := by decide +kernel
theorem dL_law_696 : decode cL_law 696 = .ok (.lcmp, 1) := by decide +kernel
theorem dL_law_697 : decode cL_law 697 = .ok (.ifCond .eq 72, 3) := by decide +kernel
theorem dL_law_700 : decode cL_law 700 = .ok (.iconst 0, 1) := by decide +kernel
theorem dL_law_701 : decode cL_law 701 = .ok (.ireturn, 1) := by decide +kernel
theorem dL_law_702 : decode cL_law 702 = .ok (.aload_n 1, 1) := by decide +kernel
theorem dL_law_703 : decode cL_law 703 = .ok (.aload_n 0, 1) := by decide +kernel
theorem dL_law_704 : decode cL_law 704 = .ok (.iload_n 3, 1) := by decide +kernel
theorem dL_law_705 : decode cL_law 705 = .ok (.iconst 1, 1) := by decide +kernel
theorem dL_law_706 : decode cL_law 706 = .ok (.iadd, 1) := by decide +kernel
theorem dL_law_707 : decode cL_law 707 = .ok (.iaload, 1) := by decide +kernel
theorem dL_law_708 : decode cL_law 708 = .ok (.aload_n 0, 1) := by decide +kernel
theorem dL_law_709 : decode cL_law 709 = .ok (.iload_n 3, 1) := by decide +kernel
theorem dL_law_710 : decode cL_law 710 = .ok (.iconst 2, 1) := by decide +kernel
theorem dL_law_711 : decode cL_law 711 = .ok (.iadd, 1) := by decide +kernel
theorem dL_law_712 : decode cL_law 712 = .ok (.iaload, 1) := by decide +kernel
theorem dL_law_713 : decode cL_law 713 = .ok (.aload_n 0, 1) := by decide +kernel
theorem dL_law_714 : decode cL_law 714 = .ok (.iload_n 3, 1) := by decide +kernel
theorem dL_law_715 : decode cL_law 715 = .ok (.iconst 3, 1) := by decide +kernel
theorem dL_law_716 : decode cL_law 716 = .ok (.iadd, 1) := by decide +kernel
theorem dL_law_717 : decode cL_law 717 = .ok (.iaload, 1) := by decide +kernel
theorem dL_law_718 : decode cL_law 718 = .ok (.invokevirtual 89, 3) := by decide +kernel
theorem dL_law_721 : decode cL_law 721 = .ok (.aload_n 2, 1) := by decide +kernel
theorem dL_law_722 : decode cL_law 722 = .ok (.aload_n 0, 1) := by decide +kernel
theorem dL_law_723 : decode cL_law 723 = .ok (.iload_n 3, 1) := by decide +kernel
theorem dL_law_724 : decode cL_law 724 = .ok (.iconst 1, 1) := by decide +kernel
theorem dL_law_725 : decode cL_law 725 = .ok (.iadd, 1) := by decide +kernel
theorem dL_law_726 : decode cL_law 726 = .ok (.iaload, 1) := by decide +kernel
theorem dL_law_727 : decode cL_law 727 = .ok (.aload_n 0, 1) := by decide +kernel
theorem dL_law_728 : decode cL_law 728 = .ok (.iload_n 3, 1) := by decide +kernel
theorem dL_law_729 : decode cL_law 729 = .ok (.iconst 2, 1) := by decide +kernel
theorem dL_law_730 : decode cL_law 730 = .ok (.iadd, 1) := by decide +kernel
theorem dL_law_731 : decode cL_law 731 = .ok (.iaload, 1) := by decide +kernel
theorem dL_law_732 : decode cL_law 732 = .ok (.aload_n 0, 1) := by decide +kernel
theorem dL_law_733 : decode cL_law 733 = .ok (.iload_n 3, 1) := by decide +kernel
theorem dL_law_734 : decode cL_law 734 = .ok (.iconst 3, 1) := by decide +kernel
theorem dL_law_735 : decode cL_law 735 = .ok (.iadd, 1) := by decide +kernel
theorem dL_law_736 : decode cL_law 736 = .ok (.iaload, 1) := by decide +kernel
theorem dL_law_737 : decode cL_law 737 = .ok (.invokevirtual 92, 3) := by decide +kernel
theorem dL_law_740 : decode cL_law 740 = .ok (.if_icmp .eq 29, 3) := by decide +kernel
theorem dL_law_743 : decode cL_law 743 = .ok (.iconst 0, 1) := by decide +kernel
theorem dL_law_744 : decode cL_law 744 = .ok (.ireturn, 1) := by decide +kernel
theorem dL_law_745 : decode cL_law 745 = .ok (.aload_n 1, 1) := by decide +kernel
theorem dL_law_746 : decode cL_law 746 = .ok (.aload_n 0, 1) := by decide +kernel
theorem dL_law_747 : decode cL_law 747 = .ok (.iload_n 3, 1) := by decide +kernel
theorem dL_law_748 : decode cL_law 748 = .ok (.iconst 1, 1) := by decide +kernel
theorem dL_law_749 : decode cL_law 749 = .ok (.iadd, 1) := by decide +kernel
theorem dL_law_750 : decode cL_law 750 = .ok (.iaload, 1) := by decide +kernel
theorem dL_law_751 : decode cL_law 751 = .ok (.invokevirtual 93, 3) := by decide +kernel
theorem dL_law_754 : decode cL_law 754 = .ok (.aload_n 2, 1) := by decide +kernel
theorem dL_law_755 : decode cL_law 755 = .ok (.aload_n 0, 1) := by decide +kernel
theorem dL_law_756 : decode cL_law 756 = .ok (.iload_n 3, 1) := by decide +kernel
theorem dL_law_757 : decode cL_law 757 = .ok (.iconst 1, 1) := by decide +kernel
theorem dL_law_758 : decode cL_law 758 = .ok (.iadd, 1) := by decide +kernel
theorem dL_law_759 : decode cL_law 759 = .ok (.iaload, 1) := by decide +kernel
theorem dL_law_760 : decode cL_law 760 = .ok (.invokevirtual 96, 3) := by decide +kernel
theorem dL_law_763 : decode cL_law 763 = .ok (.lcmp, 1) := by decide +kernel
theorem dL_law_764 : decode cL_law 764 = .ok (.ifCond .eq 5, 3) := by decide +kernel
theorem dL_law_767 : decode cL_law 767 = .ok (.iconst 0, 1) := by decide +kernel
theorem dL_law_768 : decode cL_law 768 = .ok (.ireturn, 1) := by decide +kernel
theorem dL_law_769 : decode cL_law 769 = .ok (.iinc 3 6, 3) := by decide +kernel
theorem dL_law_772 : decode cL_law 772 = .ok (.goto (-754), 3) := by decide +kernel
theorem dL_law_775 : decode cL_law 775 = .ok (.iconst 1, 1) := by decide +kernel
theorem dL_law_776 : decode cL_law 776 = .ok (.ireturn, 1) := by decide +kernel
end
section
/-! OUR OWN JUDGEMENT V: the kit's W with the world, the locals and the frame as data. -/
def lw_good : List Cond := lw_tbl.filter goodWord
theorem kg {w : Cond} (h : w ∈ lw_tbl) (g : goodWord w = true) : w ∈ lw_good := List.mem_filter.mpr ⟨h, g⟩
theorem lw_good_all : GoodIn lw_good lw_good := fun w h => ⟨h, good_of_word (List.mem_filter.mp h).2⟩
/-- what every contract is about: the classes' numbers and slots, the array classes (byte, int, long, boolean, Object), what is known of the statics -/
abbrev GG : Type := va_G × (ClassId × ClassId × ClassId × ClassId × ClassId) × ((Nat → Prop) → State → Heap → Prop)
abbrev gB (G : GG) : ClassId := G.2.1.1
abbrev gI (G : GG) : ClassId := G.2.1.2.1
abbrev gJ (G : GG) : ClassId := G.2.1.2.2.1
abbrev gZ (G : GG) : ClassId := G.2.1.2.2.2.1
abbrev gO (G : GG) : ClassId := G.2.1.2.2.2.2
def tg (G : GG) : List (ClassId × FieldType) := [(gB G, .byte), (gI G, .int), (gJ G, .long), (gZ G, .boolean), (gO G, .object "java/lang/Object")]
/-- what is known of the statics stays so over calls and writes of others -/
def EOK (G : GG) : Prop := ∀ (A B : Nat → Prop) (u U : State) (H H1 : Heap), u.vm.Alike U.vm → (∀ q, B q → A q) → (∀ a : Nat, a < H.size → ¬ A a → H1[a]? = H[a]?) → G.2.2 A u H → G.2.2 B U H1
/-- the classes of the arrays, by name -/
def gN (G : GG) (U : State) : Prop := U.vm.findClass "[B" = some (gB G) ∧ U.vm.findClass "[I" = some (gI G) ∧ U.vm.findClass "[J" = some (gJ G) ∧ U.vm.findClass "[Z" = some (gZ G) ∧ U.vm.findClass "[Ljava/lang/Object;" = some (gO G)
def gK (G : GG) (U : State) : Prop := va_K G.1 vwCl (tg G) U ∧ gN G U ∧ EOK G
abbrev CX : Type := Program × Launch × Env × State × MethodId × Array Value × List Frame × Method × Code
def okX (G : GG) (X : CX) (my : MethodName) (cc : ByteArray) (mL : Nat) (mr : Option FieldType) (A : Nat → Prop) : Prop :=
  X.1.tables.exec = Jvm.exec ∧ X.2.2.2.2.2.2.2.2.code = cc ∧ X.2.2.2.2.2.2.2.2.maxLocals = mL ∧ X.2.2.2.1.vm.findClass my.cls = some X.2.2.2.2.1.cls ∧ (∀ w ∈ lw_good, w.before X.2.2.2.2.2.1 X.2.2.2.1 = true) ∧ gK G X.2.2.2.1 ∧ (∀ q : Nat, X.2.2.2.1.heap.size ≤ q → A q) ∧ X.2.2.2.2.2.2.2.1.locks = false ∧ X.2.2.2.2.2.2.2.1.sig.returnType = mr ∧ X.2.2.2.2.2.2.2.1.name = my.name ∧ G.2.2 A X.2.2.2.1 X.2.2.2.1.heap
def V (G : GG) (X : CX) (my : MethodName) (cc : ByteArray) (mL : Nat) (mr : Option FieldType) (R : Room) (A : Nat → Prop) (Q : State → Prop) (kc kn : Nat) (ws : va_W) (lv : List (Nat × Value)) (pc : Nat) (st : List Value) : Prop :=
  ∀ (H : Heap) (locs : List Loc) (ls : Array Slot), okX G X my cc mL mr A → lv_has ls mL lv → va_P G.1 vwCl ws H → va_D A ws → va_S A X.2.2.2.1.heap H locs →
    W X.1 X.2.1 X.2.2.1 R X.2.2.2.1 X.2.2.2.2.1 X.2.2.2.2.2.1 X.2.2.2.2.2.2.1 X.2.2.2.2.2.2.2.1 X.2.2.2.2.2.2.2.2 H locs kc kn Q (F0 X.2.2.2.2.1 pc ls st)
def lk : List (Nat × Value) → Nat → Option Value
  | [], _ => none
  | q :: l, i => if q.1 = i then some q.2 else lk l i
theorem lk_mem : ∀ (l : List (Nat × Value)) (i : Nat) (v : Value), lk l i = some v → (i, v) ∈ l
  | [], _, _, h => by simp [lk] at h
  | q :: l, i, v, h => by
    simp only [lk] at h
    by_cases hq : q.1 = i
    · rw [if_pos hq] at h
      cases h
      subst hq
      exact List.mem_cons_self
    · rw [if_neg hq] at h
      exact List.mem_cons_of_mem _ (lk_mem l i v h)
theorem lk_at {ls : Array Slot} {n : Nat} {lv : List (Nat × Value)} {i : Nat} {v : Value} (h : lv_has ls n lv) (hk : lk lv i = some v) : ls[i]? = some (.val v) := h.2.2 _ (lk_mem _ _ _ hk)
/-- a contract's end -/
def CQ (G : GG) (A : Nat → Prop) {S : Type} (wf : S → va_W) (rv : S → Option Value) (post : S → Prop) : Array Value → State → Outcome → State → Prop := fun _ st oc t => (∃ u : S, oc = .returned (rv u) ∧ post u ∧ va_P G.1 vwCl (wf u) t.heap ∧ va_D A (wf u)) ∧ va_F A st t
abbrev wz (y : MethodName) (cc : ByteArray) (nL : Nat) (ret : Option FieldType) : List Cond := .code y cc nL ret :: lw_good
/-- a contract: from the world ws, with the arguments av, the method returns rv u, the world is wf u, for a u with post u -/
def Ct (l : Launch) (G : GG) (y : MethodName) (cc : ByteArray) (nL : Nat) (ret : Option FieldType) (rm : Room) (av : List Value) (ws : va_W) {S : Type} (wf : S → va_W) (rv : S → Option Value) (post : S → Prop) : Prop :=
  ∀ sz : Nat, Met l y (wz y cc nL ret) rm (va_Pc av (fun U => U.heap.size = sz ∧ va_P G.1 vwCl ws U.heap ∧ gK G U ∧ G.2.2 (va_A ws sz) U U.heap ∧ va_D (fun _ => True) ws)) (CQ G (va_A ws sz) wf rv post) rm.cells rm.slots (va_A ws sz)
abbrev MZ (G : GG) (X : CX) (R : Room) (A : Nat → Prop) {S : Type} (wf : S → va_W) (rv : S → Option Value) (post : S → Prop) : State → Prop := MQ X.2.2.2.2.2.2.1 (CQ G A wf rv post) X.2.2.2.2.2.1 X.2.2.2.1 R.cells R.slots A
theorem gK.moved {G : GG} {u U : State} (h : u.vm.Alike U.vm) (k : gK G u) : gK G U := by
  have f : ∀ (C : String) (c : ClassId), u.vm.findClass C = some c → U.vm.findClass C = some c := fun C c e => by rw [h.findClass]; exact e
  exact ⟨va_K.moved h k.1, ⟨f _ _ k.2.1.1, f _ _ k.2.1.2.1, f _ _ k.2.1.2.2.1, f _ _ k.2.1.2.2.2.1, f _ _ k.2.1.2.2.2.2⟩, k.2.2⟩
set_option maxHeartbeats 1000000 in
theorem Ct.of {l : Launch} {G : GG} {y : MethodName} {cc : ByteArray} {nL : Nat} {ret : Option FieldType} {rm : Room} {av : List Value} {ws : va_W} {S : Type} {wf : S → va_W} {rv : S → Option Value} {post : S → Prop}
    (hy : plainName y.cls = true) (hn : (lg_sl av).length ≤ nL)
    (h : ∀ (X : CX) (A : Nat → Prop), X.2.1 = l → V G X y cc nL ret rm A (MZ G X rm A wf rv post) 0 0 ws (lv_args 0 av) 0 []) : Ct l G y cc nL ret rm av ws wf rv post := by
  intro sz
  refine Met.ofW (cc := cc) (maxL := nL) (ret := ret) hy rfl ?_
  intro p e s m args below meth c s₁ B hml hv
  obtain ⟨rfl, hsz, hP, hK, hE, hD0⟩ := hv
  have hts0 := atoms_spec (ws := wz y cc nL ret) B.pre
  have hts : ∀ w ∈ lw_good, w.before av.toArray s = true := fun w hw => hts0 w (List.mem_cons_of_mem _ hw)
  have hown : s.vm.findClass y.cls = some m.cls := findClass_of_methodNamed B.named
  have hnm : meth.name = y.name := (name_of_methodNamed B.named B.method).1
  subst hsz
  have hD := hD0.self (sz := s.heap.size)
  have hl := lv_entry av (n := nL) hn
  rw [lg_entry_eq]
  exact h (p, l, e, s, m, av.toArray, below, meth, c) (va_A ws s.heap.size) rfl s.heap [] _ ⟨B.exec, B.bytes, hml, hown, hts, hK, fun q h => Or.inr h, B.notSynchronized, B.returns, hnm, hE⟩ hl hP hD va_S.rf
end
section
section VROWS
variable {G : GG} {X : CX} {my : MethodName} {cc : ByteArray} {mL : Nat} {mr : Option FieldType} {R : Room} {A : Nat → Prop} {Q : State → Prop} {kc kn : Nat} {ws : va_W} {lv : List (Nat × Value)} {pc : Nat} {rest : List Value}
theorem V.iconst {n : Int} {v : Int32} (hdg : decode cc pc = .ok (.iconst n, 1)) (hv : Int32.ofInt n = v) (k : V G X my cc mL mr R A Q kc kn ws lv (pc + 1) (.int v :: rest)) : V G X my cc mL mr R A Q kc kn ws lv pc (rest) := fun H locs ls ok hl0 hP hD hS => lv_iconst ok.1 ok.2.1 hdg hv (k H locs ls ok hl0 hP hD hS)
theorem V.bipush {n : Int} {v : Int32} (hdg : decode cc pc = .ok (.bipush n, 2)) (hv : (Int8.ofInt n).toInt32 = v) (k : V G X my cc mL mr R A Q kc kn ws lv (pc + 2) (.int v :: rest)) : V G X my cc mL mr R A Q kc kn ws lv pc (rest) := fun H locs ls ok hl0 hP hD hS => lv_bipush ok.1 ok.2.1 hdg hv (k H locs ls ok hl0 hP hD hS)
theorem V.sipush {n : Int} {v : Int32} (hdg : decode cc pc = .ok (.sipush n, 3)) (hv : (Int16.ofInt n).toInt32 = v) (k : V G X my cc mL mr R A Q kc kn ws lv (pc + 3) (.int v :: rest)) : V G X my cc mL mr R A Q kc kn ws lv pc (rest) := fun H locs ls ok hl0 hP hD hS => lv_sipush ok.1 ok.2.1 hdg hv (k H locs ls ok hl0 hP hD hS)
theorem V.lconst {n : Fin 2} {v : Int64} (hdg : decode cc pc = .ok (.lconst n, 1)) (hv : Int64.ofNat (n : Nat) = v) (k : V G X my cc mL mr R A Q kc kn ws lv (pc + 1) (.long v :: rest)) : V G X my cc mL mr R A Q kc kn ws lv pc (rest) := fun H locs ls ok hl0 hP hD hS => lv_lconst ok.1 ok.2.1 hdg hv (k H locs ls ok hl0 hP hD hS)
theorem V.iload_n {k : Fin 4} {i : Nat} {x : Int32} (hdg : decode cc pc = .ok (.iload_n k, 1)) (hi : (k : Nat) = i) (hl : lk lv i = some (.int x)) (k : V G X my cc mL mr R A Q kc kn ws lv (pc + 1) (.int x :: rest)) : V G X my cc mL mr R A Q kc kn ws lv pc (rest) := fun H locs ls ok hl0 hP hD hS => lv_iload_n ok.1 ok.2.1 hdg hi (lk_at hl0 hl) (k H locs ls ok hl0 hP hD hS)
theorem V.iload {i : Nat} {x : Int32} (hdg : decode cc pc = .ok (.iload i, 2)) (hl : lk lv i = some (.int x)) (k : V G X my cc mL mr R A Q kc kn ws lv (pc + 2) (.int x :: rest)) : V G X my cc mL mr R A Q kc kn ws lv pc (rest) := fun H locs ls ok hl0 hP hD hS => lv_iload ok.1 ok.2.1 hdg (lk_at hl0 hl) (k H locs ls ok hl0 hP hD hS)
theorem V.lload_n {k : Fin 4} {i : Nat} {x : Int64} (hdg : decode cc pc = .ok (.lload_n k, 1)) (hi : (k : Nat) = i) (hl : lk lv i = some (.long x)) (k : V G X my cc mL mr R A Q kc kn ws lv (pc + 1) (.long x :: rest)) : V G X my cc mL mr R A Q kc kn ws lv pc (rest) := fun H locs ls ok hl0 hP hD hS => lv_lload_n ok.1 ok.2.1 hdg hi (lk_at hl0 hl) (k H locs ls ok hl0 hP hD hS)
theorem V.lload {i : Nat} {x : Int64} (hdg : decode cc pc = .ok (.lload i, 2)) (hl : lk lv i = some (.long x)) (k : V G X my cc mL mr R A Q kc kn ws lv (pc + 2) (.long x :: rest)) : V G X my cc mL mr R A Q kc kn ws lv pc (rest) := fun H locs ls ok hl0 hP hD hS => lv_lload ok.1 ok.2.1 hdg (lk_at hl0 hl) (k H locs ls ok hl0 hP hD hS)
theorem V.aload_n {k : Fin 4} {i : Nat} {x : Nat} (hdg : decode cc pc = .ok (.aload_n k, 1)) (hi : (k : Nat) = i) (hl : lk lv i = some (.ref x)) (k : V G X my cc mL mr R A Q kc kn ws lv (pc + 1) (.ref x :: rest)) : V G X my cc mL mr R A Q kc kn ws lv pc (rest) := fun H locs ls ok hl0 hP hD hS => lv_aload_n ok.1 ok.2.1 hdg hi (lk_at hl0 hl) (k H locs ls ok hl0 hP hD hS)
theorem V.aload {i : Nat} {x : Nat} (hdg : decode cc pc = .ok (.aload i, 2)) (hl : lk lv i = some (.ref x)) (k : V G X my cc mL mr R A Q kc kn ws lv (pc + 2) (.ref x :: rest)) : V G X my cc mL mr R A Q kc kn ws lv pc (rest) := fun H locs ls ok hl0 hP hD hS => lv_aload ok.1 ok.2.1 hdg (lk_at hl0 hl) (k H locs ls ok hl0 hP hD hS)
theorem V.istore_n {k : Fin 4} {i : Nat} {x : Int32} {lv' : List (Nat × Value)} (hdg : decode cc pc = .ok (.istore_n k, 1)) (hi : (k : Nat) = i) (hn : i < mL) (hl : (i, Value.int x) :: lv.filter (fun q => !(q.1 == i) && !(q.1 + 1 == i && q.2.category == 2)) = lv') (kk : V G X my cc mL mr R A Q kc kn ws lv' (pc + 1) rest) : V G X my cc mL mr R A Q kc kn ws lv pc (.int x :: rest) := fun H locs ls ok hl0 hP hD hS => lv_istore_n ok.1 ok.2.1 hdg hi hl0 hn hl (fun ls' hl' => kk H locs ls' ok hl' hP hD hS)
theorem V.istore {i : Nat} {x : Int32} {lv' : List (Nat × Value)} (hdg : decode cc pc = .ok (.istore i, 2)) (hn : i < mL) (hl : (i, Value.int x) :: lv.filter (fun q => !(q.1 == i) && !(q.1 + 1 == i && q.2.category == 2)) = lv') (kk : V G X my cc mL mr R A Q kc kn ws lv' (pc + 2) rest) : V G X my cc mL mr R A Q kc kn ws lv pc (.int x :: rest) := fun H locs ls ok hl0 hP hD hS => lv_istore ok.1 ok.2.1 hdg hl0 hn hl (fun ls' hl' => kk H locs ls' ok hl' hP hD hS)
theorem V.lstore_n {k : Fin 4} {i : Nat} {x : Int64} {lv' : List (Nat × Value)} (hdg : decode cc pc = .ok (.lstore_n k, 1)) (hi : (k : Nat) = i) (hn : i + 1 < mL) (hl : (i, Value.long x) :: lv.filter (fun q => !(q.1 == i) && (!(q.1 == i + 1) && !(q.1 + 1 == i && q.2.category == 2))) = lv') (kk : V G X my cc mL mr R A Q kc kn ws lv' (pc + 1) rest) : V G X my cc mL mr R A Q kc kn ws lv pc (.long x :: rest) := fun H locs ls ok hl0 hP hD hS => lv_lstore_n ok.1 ok.2.1 hdg hi hl0 hn hl (fun ls' hl' => kk H locs ls' ok hl' hP hD hS)
theorem V.lstore {i : Nat} {x : Int64} {lv' : List (Nat × Value)} (hdg : decode cc pc = .ok (.lstore i, 2)) (hn : i + 1 < mL) (hl : (i, Value.long x) :: lv.filter (fun q => !(q.1 == i) && (!(q.1 == i + 1) && !(q.1 + 1 == i && q.2.category == 2))) = lv') (kk : V G X my cc mL mr R A Q kc kn ws lv' (pc + 2) rest) : V G X my cc mL mr R A Q kc kn ws lv pc (.long x :: rest) := fun H locs ls ok hl0 hP hD hS => lv_lstore ok.1 ok.2.1 hdg hl0 hn hl (fun ls' hl' => kk H locs ls' ok hl' hP hD hS)
theorem V.astore_n {k : Fin 4} {i : Nat} {x : Nat} {lv' : List (Nat × Value)} (hdg : decode cc pc = .ok (.astore_n k, 1)) (hi : (k : Nat) = i) (hn : i < mL) (hl : (i, Value.ref x) :: lv.filter (fun q => !(q.1 == i) && !(q.1 + 1 == i && q.2.category == 2)) = lv') (kk : V G X my cc mL mr R A Q kc kn ws lv' (pc + 1) rest) : V G X my cc mL mr R A Q kc kn ws lv pc (.ref x :: rest) := fun H locs ls ok hl0 hP hD hS => lv_astore_n ok.1 ok.2.1 hdg hi hl0 hn hl (fun ls' hl' => kk H locs ls' ok hl' hP hD hS)
theorem V.astore {i : Nat} {x : Nat} {lv' : List (Nat × Value)} (hdg : decode cc pc = .ok (.astore i, 2)) (hn : i < mL) (hl : (i, Value.ref x) :: lv.filter (fun q => !(q.1 == i) && !(q.1 + 1 == i && q.2.category == 2)) = lv') (kk : V G X my cc mL mr R A Q kc kn ws lv' (pc + 2) rest) : V G X my cc mL mr R A Q kc kn ws lv pc (.ref x :: rest) := fun H locs ls ok hl0 hP hD hS => lv_astore ok.1 ok.2.1 hdg hl0 hn hl (fun ls' hl' => kk H locs ls' ok hl' hP hD hS)
theorem V.iinc {i k : Nat} {n : Int} {x v : Int32} {lv' : List (Nat × Value)} (hdg : decode cc pc = .ok (.iinc i n, 3)) (hk : lv[k]? = some (i, .int x)) (hv : x + Int32.ofInt n = v) (hn : i < mL) (hl : (i, Value.int v) :: lv.filter (fun q => !(q.1 == i) && !(q.1 + 1 == i && q.2.category == 2)) = lv') (kk : V G X my cc mL mr R A Q kc kn ws lv' (pc + 3) rest) : V G X my cc mL mr R A Q kc kn ws lv pc rest := fun H locs ls ok hl0 hP hD hS => lv_iinc ok.1 ok.2.1 hdg hl0 hk hv hn hl (fun ls' hl' => kk H locs ls' ok hl' hP hD hS)
theorem V.iadd {x y : Int32} (hdg : decode cc pc = .ok (.iadd, 1)) (k : V G X my cc mL mr R A Q kc kn ws lv (pc + 1) (.int (x + y) :: rest)) : V G X my cc mL mr R A Q kc kn ws lv pc (.int y :: .int x :: rest) := fun H locs ls ok hl0 hP hD hS => lv_iadd ok.1 ok.2.1 hdg (k H locs ls ok hl0 hP hD hS)
theorem V.isub {x y : Int32} (hdg : decode cc pc = .ok (.isub, 1)) (k : V G X my cc mL mr R A Q kc kn ws lv (pc + 1) (.int (x - y) :: rest)) : V G X my cc mL mr R A Q kc kn ws lv pc (.int y :: .int x :: rest) := fun H locs ls ok hl0 hP hD hS => lv_isub ok.1 ok.2.1 hdg (k H locs ls ok hl0 hP hD hS)
theorem V.imul {x y : Int32} (hdg : decode cc pc = .ok (.imul, 1)) (k : V G X my cc mL mr R A Q kc kn ws lv (pc + 1) (.int (x * y) :: rest)) : V G X my cc mL mr R A Q kc kn ws lv pc (.int y :: .int x :: rest) := fun H locs ls ok hl0 hP hD hS => lv_imul ok.1 ok.2.1 hdg (k H locs ls ok hl0 hP hD hS)
theorem V.iand {x y : Int32} (hdg : decode cc pc = .ok (.iand, 1)) (k : V G X my cc mL mr R A Q kc kn ws lv (pc + 1) (.int (x &&& y) :: rest)) : V G X my cc mL mr R A Q kc kn ws lv pc (.int y :: .int x :: rest) := fun H locs ls ok hl0 hP hD hS => lv_iand ok.1 ok.2.1 hdg (k H locs ls ok hl0 hP hD hS)
theorem V.ior {x y : Int32} (hdg : decode cc pc = .ok (.ior, 1)) (k : V G X my cc mL mr R A Q kc kn ws lv (pc + 1) (.int (x ||| y) :: rest)) : V G X my cc mL mr R A Q kc kn ws lv pc (.int y :: .int x :: rest) := fun H locs ls ok hl0 hP hD hS => lv_ior ok.1 ok.2.1 hdg (k H locs ls ok hl0 hP hD hS)
theorem V.ixor {x y : Int32} (hdg : decode cc pc = .ok (.ixor, 1)) (k : V G X my cc mL mr R A Q kc kn ws lv (pc + 1) (.int (x ^^^ y) :: rest)) : V G X my cc mL mr R A Q kc kn ws lv pc (.int y :: .int x :: rest) := fun H locs ls ok hl0 hP hD hS => lv_ixor ok.1 ok.2.1 hdg (k H locs ls ok hl0 hP hD hS)
theorem V.idiv {x y : Int32} (hdg : decode cc pc = .ok (.idiv, 1)) (hne : ¬ y = 0) (k : V G X my cc mL mr R A Q kc kn ws lv (pc + 1) (.int (x / y) :: rest)) : V G X my cc mL mr R A Q kc kn ws lv pc (.int y :: .int x :: rest) := fun H locs ls ok hl0 hP hD hS => lv_idiv ok.1 ok.2.1 hdg hne (k H locs ls ok hl0 hP hD hS)
theorem V.irem {x y : Int32} (hdg : decode cc pc = .ok (.irem, 1)) (hne : ¬ y = 0) (k : V G X my cc mL mr R A Q kc kn ws lv (pc + 1) (.int (x - x / y * y) :: rest)) : V G X my cc mL mr R A Q kc kn ws lv pc (.int y :: .int x :: rest) := fun H locs ls ok hl0 hP hD hS => lv_irem ok.1 ok.2.1 hdg hne (k H locs ls ok hl0 hP hD hS)
theorem V.ineg {x : Int32} (hdg : decode cc pc = .ok (.ineg, 1)) (k : V G X my cc mL mr R A Q kc kn ws lv (pc + 1) (.int (-x) :: rest)) : V G X my cc mL mr R A Q kc kn ws lv pc (.int x :: rest) := fun H locs ls ok hl0 hP hD hS => lv_ineg ok.1 ok.2.1 hdg (k H locs ls ok hl0 hP hD hS)
theorem V.ladd {x y : Int64} (hdg : decode cc pc = .ok (.ladd, 1)) (k : V G X my cc mL mr R A Q kc kn ws lv (pc + 1) (.long (x + y) :: rest)) : V G X my cc mL mr R A Q kc kn ws lv pc (.long y :: .long x :: rest) := fun H locs ls ok hl0 hP hD hS => lv_ladd ok.1 ok.2.1 hdg (k H locs ls ok hl0 hP hD hS)
theorem V.lsub {x y : Int64} (hdg : decode cc pc = .ok (.lsub, 1)) (k : V G X my cc mL mr R A Q kc kn ws lv (pc + 1) (.long (x - y) :: rest)) : V G X my cc mL mr R A Q kc kn ws lv pc (.long y :: .long x :: rest) := fun H locs ls ok hl0 hP hD hS => lv_lsub ok.1 ok.2.1 hdg (k H locs ls ok hl0 hP hD hS)
theorem V.lmul {x y : Int64} (hdg : decode cc pc = .ok (.lmul, 1)) (k : V G X my cc mL mr R A Q kc kn ws lv (pc + 1) (.long (x * y) :: rest)) : V G X my cc mL mr R A Q kc kn ws lv pc (.long y :: .long x :: rest) := fun H locs ls ok hl0 hP hD hS => lv_lmul ok.1 ok.2.1 hdg (k H locs ls ok hl0 hP hD hS)
theorem V.land {x y : Int64} (hdg : decode cc pc = .ok (.land, 1)) (k : V G X my cc mL mr R A Q kc kn ws lv (pc + 1) (.long (x &&& y) :: rest)) : V G X my cc mL mr R A Q kc kn ws lv pc (.long y :: .long x :: rest) := fun H locs ls ok hl0 hP hD hS => lv_land ok.1 ok.2.1 hdg (k H locs ls ok hl0 hP hD hS)
theorem V.lor {x y : Int64} (hdg : decode cc pc = .ok (.lor, 1)) (k : V G X my cc mL mr R A Q kc kn ws lv (pc + 1) (.long (x ||| y) :: rest)) : V G X my cc mL mr R A Q kc kn ws lv pc (.long y :: .long x :: rest) := fun H locs ls ok hl0 hP hD hS => lv_lor ok.1 ok.2.1 hdg (k H locs ls ok hl0 hP hD hS)
theorem V.ldiv {x y : Int64} (hdg : decode cc pc = .ok (.ldiv, 1)) (hne : ¬ y = 0) (k : V G X my cc mL mr R A Q kc kn ws lv (pc + 1) (.long (x / y) :: rest)) : V G X my cc mL mr R A Q kc kn ws lv pc (.long y :: .long x :: rest) := fun H locs ls ok hl0 hP hD hS => lv_ldiv ok.1 ok.2.1 hdg hne (k H locs ls ok hl0 hP hD hS)
theorem V.lrem {x y : Int64} (hdg : decode cc pc = .ok (.lrem, 1)) (hne : ¬ y = 0) (k : V G X my cc mL mr R A Q kc kn ws lv (pc + 1) (.long (x - x / y * y) :: rest)) : V G X my cc mL mr R A Q kc kn ws lv pc (.long y :: .long x :: rest) := fun H locs ls ok hl0 hP hD hS => lv_lrem ok.1 ok.2.1 hdg hne (k H locs ls ok hl0 hP hD hS)
theorem V.ishl {x y : Int32} (hdg : decode cc pc = .ok (.ishl, 1)) (k : V G X my cc mL mr R A Q kc kn ws lv (pc + 1) (.int (x <<< (y &&& 31)) :: rest)) : V G X my cc mL mr R A Q kc kn ws lv pc (.int y :: .int x :: rest) := fun H locs ls ok hl0 hP hD hS => lv_ishl ok.1 ok.2.1 hdg (k H locs ls ok hl0 hP hD hS)
theorem V.ishr {x y : Int32} (hdg : decode cc pc = .ok (.ishr, 1)) (k : V G X my cc mL mr R A Q kc kn ws lv (pc + 1) (.int (x >>> (y &&& 31)) :: rest)) : V G X my cc mL mr R A Q kc kn ws lv pc (.int y :: .int x :: rest) := fun H locs ls ok hl0 hP hD hS => lv_ishr ok.1 ok.2.1 hdg (k H locs ls ok hl0 hP hD hS)
theorem V.iushr {x y v : Int32} (hdg : decode cc pc = .ok (.iushr, 1)) (hv : (x.toUInt32 >>> (y.toUInt32 &&& Int32.toUInt32 31)).toInt32 = v) (k : V G X my cc mL mr R A Q kc kn ws lv (pc + 1) (.int v :: rest)) : V G X my cc mL mr R A Q kc kn ws lv pc (.int y :: .int x :: rest) := fun H locs ls ok hl0 hP hD hS => lv_iushr ok.1 ok.2.1 hdg hv (k H locs ls ok hl0 hP hD hS)
theorem V.lshl {x v : Int64} {y : Int32} (hdg : decode cc pc = .ok (.lshl, 1)) (hv : x <<< (y.toInt64 &&& 63) = v) (k : V G X my cc mL mr R A Q kc kn ws lv (pc + 1) (.long v :: rest)) : V G X my cc mL mr R A Q kc kn ws lv pc (.int y :: .long x :: rest) := fun H locs ls ok hl0 hP hD hS => lv_lshl ok.1 ok.2.1 hdg hv (k H locs ls ok hl0 hP hD hS)
theorem V.i2l {x : Int32} {v : Int64} (hdg : decode cc pc = .ok (.i2l, 1)) (hv : x.toInt64 = v) (k : V G X my cc mL mr R A Q kc kn ws lv (pc + 1) (.long v :: rest)) : V G X my cc mL mr R A Q kc kn ws lv pc (.int x :: rest) := fun H locs ls ok hl0 hP hD hS => lv_i2l ok.1 ok.2.1 hdg hv (k H locs ls ok hl0 hP hD hS)
theorem V.l2i {x : Int64} {v : Int32} (hdg : decode cc pc = .ok (.l2i, 1)) (hv : x.toInt32 = v) (k : V G X my cc mL mr R A Q kc kn ws lv (pc + 1) (.int v :: rest)) : V G X my cc mL mr R A Q kc kn ws lv pc (.long x :: rest) := fun H locs ls ok hl0 hP hD hS => lv_l2i ok.1 ok.2.1 hdg hv (k H locs ls ok hl0 hP hD hS)
theorem V.i2b {x : Int32} {v : Int32} (hdg : decode cc pc = .ok (.i2b, 1)) (hv : x.toInt8.toInt32 = v) (k : V G X my cc mL mr R A Q kc kn ws lv (pc + 1) (.int v :: rest)) : V G X my cc mL mr R A Q kc kn ws lv pc (.int x :: rest) := fun H locs ls ok hl0 hP hD hS => lv_i2b ok.1 ok.2.1 hdg hv (k H locs ls ok hl0 hP hD hS)
theorem V.i2c {x : Int32} {v : Int32} (hdg : decode cc pc = .ok (.i2c, 1)) (hv : (x.toUInt32 % 65536).toInt32 = v) (k : V G X my cc mL mr R A Q kc kn ws lv (pc + 1) (.int v :: rest)) : V G X my cc mL mr R A Q kc kn ws lv pc (.int x :: rest) := fun H locs ls ok hl0 hP hD hS => lv_i2c ok.1 ok.2.1 hdg hv (k H locs ls ok hl0 hP hD hS)
theorem V.dup {va : Value} (hdg : decode cc pc = .ok (.dup, 1)) (hva : va.category = 1) (k : V G X my cc mL mr R A Q kc kn ws lv (pc + 1) (va :: va :: rest)) : V G X my cc mL mr R A Q kc kn ws lv pc (va :: rest) := fun H locs ls ok hl0 hP hD hS => lv_dup ok.1 ok.2.1 hdg hva (k H locs ls ok hl0 hP hD hS)
theorem V.pop {va : Value} (hdg : decode cc pc = .ok (.pop, 1)) (hva : va.category = 1) (k : V G X my cc mL mr R A Q kc kn ws lv (pc + 1) (rest)) : V G X my cc mL mr R A Q kc kn ws lv pc (va :: rest) := fun H locs ls ok hl0 hP hD hS => lv_pop ok.1 ok.2.1 hdg hva (k H locs ls ok hl0 hP hD hS)
theorem V.dup_x1 {va vb : Value} (hdg : decode cc pc = .ok (.dup_x1, 1)) (hva : va.category = 1) (hvb : vb.category = 1) (k : V G X my cc mL mr R A Q kc kn ws lv (pc + 1) (va :: vb :: va :: rest)) : V G X my cc mL mr R A Q kc kn ws lv pc (va :: vb :: rest) := fun H locs ls ok hl0 hP hD hS => lv_dup_x1 ok.1 ok.2.1 hdg hva hvb (k H locs ls ok hl0 hP hD hS)
theorem V.dup_x2 {va vb vd : Value} (hdg : decode cc pc = .ok (.dup_x2, 1)) (hva : va.category = 1) (hvb : vb.category = 1) (hvd : vd.category = 1) (k : V G X my cc mL mr R A Q kc kn ws lv (pc + 1) (va :: vb :: vd :: va :: rest)) : V G X my cc mL mr R A Q kc kn ws lv pc (va :: vb :: vd :: rest) := fun H locs ls ok hl0 hP hD hS => lv_dup_x2 ok.1 ok.2.1 hdg hva hvb hvd (k H locs ls ok hl0 hP hD hS)
theorem V.dup2_11 {va vb : Value} (hdg : decode cc pc = .ok (.dup2, 1)) (hva : va.category = 1) (hvb : vb.category = 1) (k : V G X my cc mL mr R A Q kc kn ws lv (pc + 1) (va :: vb :: va :: vb :: rest)) : V G X my cc mL mr R A Q kc kn ws lv pc (va :: vb :: rest) := fun H locs ls ok hl0 hP hD hS => lv_dup2_11 ok.1 ok.2.1 hdg hva hvb (k H locs ls ok hl0 hP hD hS)
theorem V.dup2_2 {va : Value} (hdg : decode cc pc = .ok (.dup2, 1)) (hva : va.category = 2) (k : V G X my cc mL mr R A Q kc kn ws lv (pc + 1) (va :: va :: rest)) : V G X my cc mL mr R A Q kc kn ws lv pc (va :: rest) := fun H locs ls ok hl0 hP hD hS => lv_dup2_2 ok.1 ok.2.1 hdg hva (k H locs ls ok hl0 hP hD hS)
theorem V.pop2_2 {va : Value} (hdg : decode cc pc = .ok (.pop2, 1)) (hva : va.category = 2) (k : V G X my cc mL mr R A Q kc kn ws lv (pc + 1) (rest)) : V G X my cc mL mr R A Q kc kn ws lv pc (va :: rest) := fun H locs ls ok hl0 hP hD hS => lv_pop2_2 ok.1 ok.2.1 hdg hva (k H locs ls ok hl0 hP hD hS)
theorem V.dup2_x1_2 {va vb : Value} (hdg : decode cc pc = .ok (.dup2_x1, 1)) (hva : va.category = 2) (hvb : vb.category = 1) (k : V G X my cc mL mr R A Q kc kn ws lv (pc + 1) (va :: vb :: va :: rest)) : V G X my cc mL mr R A Q kc kn ws lv pc (va :: vb :: rest) := fun H locs ls ok hl0 hP hD hS => lv_dup2_x1_2 ok.1 ok.2.1 hdg hva hvb (k H locs ls ok hl0 hP hD hS)
theorem V.dup2_x2_2 {va vb vd : Value} (hdg : decode cc pc = .ok (.dup2_x2, 1)) (hva : va.category = 2) (hvb : vb.category = 1) (hvd : vd.category = 1) (k : V G X my cc mL mr R A Q kc kn ws lv (pc + 1) (va :: vb :: vd :: va :: rest)) : V G X my cc mL mr R A Q kc kn ws lv pc (va :: vb :: vd :: rest) := fun H locs ls ok hl0 hP hD hS => lv_dup2_x2_2 ok.1 ok.2.1 hdg hva hvb hvd (k H locs ls ok hl0 hP hD hS)
theorem V.if_eq {x : Int32} {off : Int} {tgt : Nat} (hdg : decode cc pc = .ok (.ifCond .eq off, 3)) (ht : (pc : Int) + off = (tgt : Int)) (kt : x = 0 → V G X my cc mL mr R A Q kc kn ws lv tgt rest) (kf : ¬ x = 0 → V G X my cc mL mr R A Q kc kn ws lv (pc + 3) rest) : V G X my cc mL mr R A Q kc kn ws lv pc (.int x :: rest) := fun H locs ls ok hl0 hP hD hS => lv_if_eq ok.1 ok.2.1 hdg ht (fun h9 => kt h9 H locs ls ok hl0 hP hD hS) (fun h9 => kf h9 H locs ls ok hl0 hP hD hS)
theorem V.if_ne {x : Int32} {off : Int} {tgt : Nat} (hdg : decode cc pc = .ok (.ifCond .ne off, 3)) (ht : (pc : Int) + off = (tgt : Int)) (kt : ¬ x = 0 → V G X my cc mL mr R A Q kc kn ws lv tgt rest) (kf : x = 0 → V G X my cc mL mr R A Q kc kn ws lv (pc + 3) rest) : V G X my cc mL mr R A Q kc kn ws lv pc (.int x :: rest) := fun H locs ls ok hl0 hP hD hS => lv_if_ne ok.1 ok.2.1 hdg ht (fun h9 => kt h9 H locs ls ok hl0 hP hD hS) (fun h9 => kf h9 H locs ls ok hl0 hP hD hS)
theorem V.if_lt {x : Int32} {off : Int} {tgt : Nat} (hdg : decode cc pc = .ok (.ifCond .lt off, 3)) (ht : (pc : Int) + off = (tgt : Int)) (kt : x < 0 → V G X my cc mL mr R A Q kc kn ws lv tgt rest) (kf : ¬ x < 0 → V G X my cc mL mr R A Q kc kn ws lv (pc + 3) rest) : V G X my cc mL mr R A Q kc kn ws lv pc (.int x :: rest) := fun H locs ls ok hl0 hP hD hS => lv_if_lt ok.1 ok.2.1 hdg ht (fun h9 => kt h9 H locs ls ok hl0 hP hD hS) (fun h9 => kf h9 H locs ls ok hl0 hP hD hS)
theorem V.if_ge {x : Int32} {off : Int} {tgt : Nat} (hdg : decode cc pc = .ok (.ifCond .ge off, 3)) (ht : (pc : Int) + off = (tgt : Int)) (kt : 0 ≤ x → V G X my cc mL mr R A Q kc kn ws lv tgt rest) (kf : ¬ 0 ≤ x → V G X my cc mL mr R A Q kc kn ws lv (pc + 3) rest) : V G X my cc mL mr R A Q kc kn ws lv pc (.int x :: rest) := fun H locs ls ok hl0 hP hD hS => lv_if_ge ok.1 ok.2.1 hdg ht (fun h9 => kt h9 H locs ls ok hl0 hP hD hS) (fun h9 => kf h9 H locs ls ok hl0 hP hD hS)
theorem V.if_gt {x : Int32} {off : Int} {tgt : Nat} (hdg : decode cc pc = .ok (.ifCond .gt off, 3)) (ht : (pc : Int) + off = (tgt : Int)) (kt : 0 < x → V G X my cc mL mr R A Q kc kn ws lv tgt rest) (kf : ¬ 0 < x → V G X my cc mL mr R A Q kc kn ws lv (pc + 3) rest) : V G X my cc mL mr R A Q kc kn ws lv pc (.int x :: rest) := fun H locs ls ok hl0 hP hD hS => lv_if_gt ok.1 ok.2.1 hdg ht (fun h9 => kt h9 H locs ls ok hl0 hP hD hS) (fun h9 => kf h9 H locs ls ok hl0 hP hD hS)
theorem V.if_le {x : Int32} {off : Int} {tgt : Nat} (hdg : decode cc pc = .ok (.ifCond .le off, 3)) (ht : (pc : Int) + off = (tgt : Int)) (kt : x ≤ 0 → V G X my cc mL mr R A Q kc kn ws lv tgt rest) (kf : ¬ x ≤ 0 → V G X my cc mL mr R A Q kc kn ws lv (pc + 3) rest) : V G X my cc mL mr R A Q kc kn ws lv pc (.int x :: rest) := fun H locs ls ok hl0 hP hD hS => lv_if_le ok.1 ok.2.1 hdg ht (fun h9 => kt h9 H locs ls ok hl0 hP hD hS) (fun h9 => kf h9 H locs ls ok hl0 hP hD hS)
theorem V.icmp_eq {x y : Int32} {off : Int} {tgt : Nat} (hdg : decode cc pc = .ok (.if_icmp .eq off, 3)) (ht : (pc : Int) + off = (tgt : Int)) (kt : x = y → V G X my cc mL mr R A Q kc kn ws lv tgt rest) (kf : ¬ x = y → V G X my cc mL mr R A Q kc kn ws lv (pc + 3) rest) : V G X my cc mL mr R A Q kc kn ws lv pc (.int y :: .int x :: rest) := fun H locs ls ok hl0 hP hD hS => lv_icmp_eq ok.1 ok.2.1 hdg ht (fun h9 => kt h9 H locs ls ok hl0 hP hD hS) (fun h9 => kf h9 H locs ls ok hl0 hP hD hS)
theorem V.icmp_ne {x y : Int32} {off : Int} {tgt : Nat} (hdg : decode cc pc = .ok (.if_icmp .ne off, 3)) (ht : (pc : Int) + off = (tgt : Int)) (kt : ¬ x = y → V G X my cc mL mr R A Q kc kn ws lv tgt rest) (kf : x = y → V G X my cc mL mr R A Q kc kn ws lv (pc + 3) rest) : V G X my cc mL mr R A Q kc kn ws lv pc (.int y :: .int x :: rest) := fun H locs ls ok hl0 hP hD hS => lv_icmp_ne ok.1 ok.2.1 hdg ht (fun h9 => kt h9 H locs ls ok hl0 hP hD hS) (fun h9 => kf h9 H locs ls ok hl0 hP hD hS)
theorem V.icmp_lt {x y : Int32} {off : Int} {tgt : Nat} (hdg : decode cc pc = .ok (.if_icmp .lt off, 3)) (ht : (pc : Int) + off = (tgt : Int)) (kt : x < y → V G X my cc mL mr R A Q kc kn ws lv tgt rest) (kf : ¬ x < y → V G X my cc mL mr R A Q kc kn ws lv (pc + 3) rest) : V G X my cc mL mr R A Q kc kn ws lv pc (.int y :: .int x :: rest) := fun H locs ls ok hl0 hP hD hS => lv_icmp_lt ok.1 ok.2.1 hdg ht (fun h9 => kt h9 H locs ls ok hl0 hP hD hS) (fun h9 => kf h9 H locs ls ok hl0 hP hD hS)
theorem V.icmp_ge {x y : Int32} {off : Int} {tgt : Nat} (hdg : decode cc pc = .ok (.if_icmp .ge off, 3)) (ht : (pc : Int) + off = (tgt : Int)) (kt : y ≤ x → V G X my cc mL mr R A Q kc kn ws lv tgt rest) (kf : ¬ y ≤ x → V G X my cc mL mr R A Q kc kn ws lv (pc + 3) rest) : V G X my cc mL mr R A Q kc kn ws lv pc (.int y :: .int x :: rest) := fun H locs ls ok hl0 hP hD hS => lv_icmp_ge ok.1 ok.2.1 hdg ht (fun h9 => kt h9 H locs ls ok hl0 hP hD hS) (fun h9 => kf h9 H locs ls ok hl0 hP hD hS)
theorem V.icmp_gt {x y : Int32} {off : Int} {tgt : Nat} (hdg : decode cc pc = .ok (.if_icmp .gt off, 3)) (ht : (pc : Int) + off = (tgt : Int)) (kt : y < x → V G X my cc mL mr R A Q kc kn ws lv tgt rest) (kf : ¬ y < x → V G X my cc mL mr R A Q kc kn ws lv (pc + 3) rest) : V G X my cc mL mr R A Q kc kn ws lv pc (.int y :: .int x :: rest) := fun H locs ls ok hl0 hP hD hS => lv_icmp_gt ok.1 ok.2.1 hdg ht (fun h9 => kt h9 H locs ls ok hl0 hP hD hS) (fun h9 => kf h9 H locs ls ok hl0 hP hD hS)
theorem V.icmp_le {x y : Int32} {off : Int} {tgt : Nat} (hdg : decode cc pc = .ok (.if_icmp .le off, 3)) (ht : (pc : Int) + off = (tgt : Int)) (kt : x ≤ y → V G X my cc mL mr R A Q kc kn ws lv tgt rest) (kf : ¬ x ≤ y → V G X my cc mL mr R A Q kc kn ws lv (pc + 3) rest) : V G X my cc mL mr R A Q kc kn ws lv pc (.int y :: .int x :: rest) := fun H locs ls ok hl0 hP hD hS => lv_icmp_le ok.1 ok.2.1 hdg ht (fun h9 => kt h9 H locs ls ok hl0 hP hD hS) (fun h9 => kf h9 H locs ls ok hl0 hP hD hS)
theorem V.goto {off : Int} {tgt : Nat} (hdg : decode cc pc = .ok (.goto off, 3)) (ht : (pc : Int) + off = (tgt : Int)) (k : V G X my cc mL mr R A Q kc kn ws lv tgt rest) : V G X my cc mL mr R A Q kc kn ws lv pc rest := fun H locs ls ok hl0 hP hD hS => lv_goto ok.1 ok.2.1 hdg ht (k H locs ls ok hl0 hP hD hS)
theorem V.null (hdg : decode cc pc = .ok (.aconst_null, 1)) (k : V G X my cc mL mr R A Q kc kn ws lv (pc + 1) (.null :: rest)) : V G X my cc mL mr R A Q kc kn ws lv pc rest := fun H locs ls ok hl0 hP hD hS => lv_null ok.1 ok.2.1 hdg (k H locs ls ok hl0 hP hD hS)
theorem V.ifnull {x : Nat} {off : Int} (hdg : decode cc pc = .ok (.ifnull off, 3)) (k : V G X my cc mL mr R A Q kc kn ws lv (pc + 3) rest) : V G X my cc mL mr R A Q kc kn ws lv pc (.ref x :: rest) := fun H locs ls ok hl0 hP hD hS => lv_ifnull ok.1 ok.2.1 hdg (k H locs ls ok hl0 hP hD hS)
theorem V.ifnonnull {x : Nat} {off : Int} {tgt : Nat} (hdg : decode cc pc = .ok (.ifnonnull off, 3)) (ht : (pc : Int) + off = (tgt : Int)) (k : V G X my cc mL mr R A Q kc kn ws lv tgt rest) : V G X my cc mL mr R A Q kc kn ws lv pc (.ref x :: rest) := fun H locs ls ok hl0 hP hD hS => lv_ifnonnull ok.1 ok.2.1 hdg ht (k H locs ls ok hl0 hP hD hS)
theorem V.ifnullN {off : Int} {tgt : Nat} (hdg : decode cc pc = .ok (.ifnull off, 3)) (ht : (pc : Int) + off = (tgt : Int)) (k : V G X my cc mL mr R A Q kc kn ws lv tgt rest) : V G X my cc mL mr R A Q kc kn ws lv pc (.null :: rest) := fun H locs ls ok hl0 hP hD hS => lv_ifnullN ok.1 ok.2.1 hdg ht (k H locs ls ok hl0 hP hD hS)
theorem V.ifnonnullN {off : Int} (hdg : decode cc pc = .ok (.ifnonnull off, 3)) (k : V G X my cc mL mr R A Q kc kn ws lv (pc + 3) rest) : V G X my cc mL mr R A Q kc kn ws lv pc (.null :: rest) := fun H locs ls ok hl0 hP hD hS => lv_ifnonnullN ok.1 ok.2.1 hdg (k H locs ls ok hl0 hP hD hS)
theorem V.ldc {index : Nat} {v : Int32} (hconst : (Cond.constant my.cls index v) ∈ lw_good) (hdg : decode cc pc = .ok (.ldc index, 2)) (k : V G X my cc mL mr R A Q kc kn ws lv (pc + 2) (.int v :: rest)) : V G X my cc mL mr R A Q kc kn ws lv pc rest := fun H locs ls ok hl0 hP hD hS => lv_ldc ok.1 ok.2.1 ok.2.2.2.1 (ok.2.2.2.2.1 _ hconst) hdg (k H locs ls ok hl0 hP hD hS)
theorem V.ldc2 {index : Nat} {v : Int64} (hconst : (Cond.constantLong my.cls index v) ∈ lw_good) (hdg : decode cc pc = .ok (.ldc2_w index, 3)) (k : V G X my cc mL mr R A Q kc kn ws lv (pc + 3) (.long v :: rest)) : V G X my cc mL mr R A Q kc kn ws lv pc rest := fun H locs ls ok hl0 hP hD hS => lv_ldc2 ok.1 ok.2.1 ok.2.2.2.1 (ok.2.2.2.2.1 _ hconst) hdg (k H locs ls ok hl0 hP hD hS)
theorem V.lookup {dflt : Int} {ps : Array (Int × Int)} {len : Nat} {x : Int32} {off : Int} {tgt : Nat} (hdg : decode cc pc = .ok (.lookupswitch dflt ps, len)) (hp : (ps.toList.zip (ps.toList.drop 1)).all (fun (a, next) => a.1 < next.1) = true) (ho : Op.lookupswitch.offset ps.toList dflt x.toInt = off) (ht : (pc : Int) + off = (tgt : Int)) (k : V G X my cc mL mr R A Q kc kn ws lv tgt rest) : V G X my cc mL mr R A Q kc kn ws lv pc (.int x :: rest) := fun H locs ls ok hl0 hP hD hS => lv_lookup ok.1 ok.2.1 hdg hp ho ht (k H locs ls ok hl0 hP hD hS)
theorem V.tableIn {dflt lo hi : Int} {offs : Array Int} {len : Nat} {x : Int32} {off : Int} {tgt : Nat} (hdg : decode cc pc = .ok (.tableswitch dflt lo hi offs, len)) (h1 : ¬ x.toInt < lo) (h2 : ¬ hi < x.toInt) (ho : offs[(x.toInt - lo).toNat]? = some off) (ht : (pc : Int) + off = (tgt : Int)) (k : V G X my cc mL mr R A Q kc kn ws lv tgt rest) : V G X my cc mL mr R A Q kc kn ws lv pc (.int x :: rest) := fun H locs ls ok hl0 hP hD hS => lv_tableIn ok.1 ok.2.1 hdg h1 h2 ho ht (k H locs ls ok hl0 hP hD hS)
theorem V.tableOut {dflt lo hi : Int} {offs : Array Int} {len : Nat} {x : Int32} {tgt : Nat} (hdg : decode cc pc = .ok (.tableswitch dflt lo hi offs, len)) (h : x.toInt < lo ∨ hi < x.toInt) (ht : (pc : Int) + dflt = (tgt : Int)) (k : V G X my cc mL mr R A Q kc kn ws lv tgt rest) : V G X my cc mL mr R A Q kc kn ws lv pc (.int x :: rest) := fun H locs ls ok hl0 hP hD hS => lv_tableOut ok.1 ok.2.1 hdg h ht (k H locs ls ok hl0 hP hD hS)
theorem V.aload_nN {k : Fin 4} {i : Nat} (hdg : decode cc pc = .ok (.aload_n k, 1)) (hi : (k : Nat) = i) (hl : lk lv i = some (.null)) (k : V G X my cc mL mr R A Q kc kn ws lv (pc + 1) (.null :: rest)) : V G X my cc mL mr R A Q kc kn ws lv pc (rest) := fun H locs ls ok hl0 hP hD hS => lv_aload_nN ok.1 ok.2.1 hdg hi (lk_at hl0 hl) (k H locs ls ok hl0 hP hD hS)
theorem V.aloadN {i : Nat} (hdg : decode cc pc = .ok (.aload i, 2)) (hl : lk lv i = some (.null)) (k : V G X my cc mL mr R A Q kc kn ws lv (pc + 2) (.null :: rest)) : V G X my cc mL mr R A Q kc kn ws lv pc (rest) := fun H locs ls ok hl0 hP hD hS => lv_aloadN ok.1 ok.2.1 hdg (lk_at hl0 hl) (k H locs ls ok hl0 hP hD hS)
theorem V.astore_nN {k : Fin 4} {i : Nat} {lv' : List (Nat × Value)} (hdg : decode cc pc = .ok (.astore_n k, 1)) (hi : (k : Nat) = i) (hn : i < mL) (hl : (i, Value.null) :: lv.filter (fun q => !(q.1 == i) && !(q.1 + 1 == i && q.2.category == 2)) = lv') (kk : V G X my cc mL mr R A Q kc kn ws lv' (pc + 1) rest) : V G X my cc mL mr R A Q kc kn ws lv pc (.null :: rest) := fun H locs ls ok hl0 hP hD hS => lv_astore_nN ok.1 ok.2.1 hdg hi hl0 hn hl (fun ls' hl' => kk H locs ls' ok hl' hP hD hS)
theorem V.astoreN {i : Nat} {lv' : List (Nat × Value)} (hdg : decode cc pc = .ok (.astore i, 2)) (hn : i < mL) (hl : (i, Value.null) :: lv.filter (fun q => !(q.1 == i) && !(q.1 + 1 == i && q.2.category == 2)) = lv') (kk : V G X my cc mL mr R A Q kc kn ws lv' (pc + 2) rest) : V G X my cc mL mr R A Q kc kn ws lv pc (.null :: rest) := fun H locs ls ok hl0 hP hD hS => lv_astoreN ok.1 ok.2.1 hdg hl0 hn hl (fun ls' hl' => kk H locs ls' ok hl' hP hD hS)
theorem V.castN {index : Nat} (hdg : decode cc pc = .ok (.checkcast index, 3)) (k : V G X my cc mL mr R A Q kc kn ws lv (pc + 3) (.null :: rest)) : V G X my cc mL mr R A Q kc kn ws lv pc (.null :: rest) := fun H locs ls ok hl0 hP hD hS => lv_castN ok.1 ok.2.1 hdg (k H locs ls ok hl0 hP hD hS)
end VROWS
end
section
theorem kt {w : Cond} (i : Nat) (h : tables_1[i]? = some w) (g : goodWord w = true) : w ∈ lw_good := kg (List.mem_append_right _ (List.mem_of_getElem? h)) g
theorem kp {w : Cond} (i : Nat) (h : (k2_sels lw_privs)[i]? = some w) (g : goodWord w = true) : w ∈ lw_good := kg (List.mem_append_left _ (List.mem_of_getElem? h)) g
theorem kN_L : Cond.initialized RL ∈ lw_good := kt 0 (by decide +kernel) (by decide +kernel)
theorem kN_X7 : Cond.initialized RX7 ∈ lw_good := kt 1 (by decide +kernel) (by decide +kernel)
theorem kN_X5 : Cond.initialized RX5 ∈ lw_good := kt 2 (by decide +kernel) (by decide +kernel)
theorem kN_X1 : Cond.initialized RX1 ∈ lw_good := kt 3 (by decide +kernel) (by decide +kernel)
theorem kN_X2 : Cond.initialized RX2 ∈ lw_good := kt 4 (by decide +kernel) (by decide +kernel)
theorem kN_Jxa1e45 : Cond.initialized RJxa1e45 ∈ lw_good := kt 5 (by decide +kernel) (by decide +kernel)
theorem kN_Jxc12de : Cond.initialized RJxc12de ∈ lw_good := kt 6 (by decide +kernel) (by decide +kernel)
theorem kN_Jx4a65c : Cond.initialized RJx4a65c ∈ lw_good := kt 7 (by decide +kernel) (by decide +kernel)
theorem kN_X0 : Cond.initialized RX0 ∈ lw_good := kt 8 (by decide +kernel) (by decide +kernel)
theorem kN_X8 : Cond.initialized RX8 ∈ lw_good := kt 9 (by decide +kernel) (by decide +kernel)
theorem kN_J10 : Cond.initialized RJ10 ∈ lw_good := kt 10 (by decide +kernel) (by decide +kernel)
theorem kN_J0 : Cond.initialized RJ0 ∈ lw_good := kt 11 (by decide +kernel) (by decide +kernel)
theorem kN_J1 : Cond.initialized RJ1 ∈ lw_good := kt 12 (by decide +kernel) (by decide +kernel)
theorem kN_J9 : Cond.initialized RJ9 ∈ lw_good := kt 13 (by decide +kernel) (by decide +kernel)
theorem kN_J2 : Cond.initialized RJ2 ∈ lw_good := kt 14 (by decide +kernel) (by decide +kernel)
theorem kN_J3 : Cond.initialized RJ3 ∈ lw_good := kt 15 (by decide +kernel) (by decide +kernel)
theorem kN_J11 : Cond.initialized RJ11 ∈ lw_good := kt 16 (by decide +kernel) (by decide +kernel)
theorem kN_X6 : Cond.initialized RX6 ∈ lw_good := kt 17 (by decide +kernel) (by decide +kernel)
theorem kN_X4 : Cond.initialized RX4 ∈ lw_good := kt 18 (by decide +kernel) (by decide +kernel)
theorem kN_J8 : Cond.initialized RJ8 ∈ lw_good := kt 19 (by decide +kernel) (by decide +kernel)
theorem kN_J7 : Cond.initialized RJ7 ∈ lw_good := kt 20 (by decide +kernel) (by decide +kernel)
theorem kN_J15 : Cond.initialized RJ15 ∈ lw_good := kt 21 (by decide +kernel) (by decide +kernel)
theorem kN_X3 : Cond.initialized RX3 ∈ lw_good := kt 22 (by decide +kernel) (by decide +kernel)
theorem kL_L_7 : Cond.classLink RL 7 RX7 ∈ lw_good := kt 23 (by decide +kernel) (by decide +kernel)
theorem kT_X7 : Cond.instantiable RX7 5 ∈ lw_good := kt 24 (by decide +kernel) (by decide +kernel)
theorem kM_L_9 : Cond.methodLink RL 9 yX7_init ∈ lw_good := kt 25 (by decide +kernel) (by decide +kernel)
theorem kI_X7_init : Cond.instanceMethod yX7_init ∈ lw_good := kt 26 (by decide +kernel) (by decide +kernel)
theorem kC_X7_init : Cond.code yX7_init cX7_init 1 none ∈ lw_good := kt 27 (by decide +kernel) (by decide +kernel)
theorem kM_X7_1 : Cond.methodLink RX7 1 objectInit ∈ lw_good := kt 28 (by decide +kernel) (by decide +kernel)
theorem kI_objectInit : Cond.instanceMethod objectInit ∈ lw_good := kt 29 (by decide +kernel) (by decide +kernel)
theorem kC_objectInit : Cond.code objectInit ⟨#[0xb1]⟩ 1 none ∈ lw_good := kt 30 (by decide +kernel) (by decide +kernel)
theorem kL_X7_7 : Cond.classLink RX7 7 RX5 ∈ lw_good := kt 31 (by decide +kernel) (by decide +kernel)
theorem kT_X5 : Cond.instantiable RX5 2 ∈ lw_good := kt 32 (by decide +kernel) (by decide +kernel)
theorem kM_X7_9 : Cond.methodLink RX7 9 yX5_init ∈ lw_good := kt 33 (by decide +kernel) (by decide +kernel)
theorem kI_X5_init : Cond.instanceMethod yX5_init ∈ lw_good := kt 34 (by decide +kernel) (by decide +kernel)
theorem kC_X5_init : Cond.code yX5_init cX5_init 1 none ∈ lw_good := kt 35 (by decide +kernel) (by decide +kernel)
theorem kM_X5_3 : Cond.methodLink RX5 3 objectInit ∈ lw_good := kt 36 (by decide +kernel) (by decide +kernel)
theorem kF_X5_11 : Cond.fieldLink RX5 11 "EvenGranary$Tape" "bytes" "[I" ∈ lw_good := kt 37 (by decide +kernel) (by decide +kernel)
theorem kF_X5_15 : Cond.fieldLink RX5 15 "EvenGranary$Tape" "length" "I" ∈ lw_good := kt 38 (by decide +kernel) (by decide +kernel)
theorem kA_int : Cond.arrayClass .int ∈ lw_good := kt 44 (by decide +kernel) (by decide +kernel)
theorem kL_X7_16 : Cond.classLink RX7 16 RX1 ∈ lw_good := kt 45 (by decide +kernel) (by decide +kernel)
theorem kT_X1 : Cond.instantiable RX1 2 ∈ lw_good := kt 46 (by decide +kernel) (by decide +kernel)
theorem kM_X7_18 : Cond.methodLink RX7 18 yX1_init ∈ lw_good := kt 47 (by decide +kernel) (by decide +kernel)
theorem kI_X1_init : Cond.instanceMethod yX1_init ∈ lw_good := kt 48 (by decide +kernel) (by decide +kernel)
theorem kC_X1_init : Cond.code yX1_init cX1_init 1 none ∈ lw_good := kt 49 (by decide +kernel) (by decide +kernel)
theorem kM_X1_3 : Cond.methodLink RX1 3 objectInit ∈ lw_good := kt 50 (by decide +kernel) (by decide +kernel)
theorem kF_X1_9 : Cond.fieldLink RX1 9 "EvenGranary$Edict" "FIRST" "[I" ∈ lw_good := kt 51 (by decide +kernel) (by decide +kernel)
theorem kM_X1_15 : Cond.methodLink RX1 15 ⟨"[I", "clone", "()Ljava/lang/Object;"⟩ ∈ lw_good := kt 53 (by decide +kernel) (by decide +kernel)
theorem kX_Object_clone : Cond.native ⟨"java/lang/Object", "clone", "()Ljava/lang/Object;"⟩ ∈ lw_good := kt 55 (by decide +kernel) (by decide +kernel)
theorem kI_Object_clone : Cond.instanceMethod ⟨"java/lang/Object", "clone", "()Ljava/lang/Object;"⟩ ∈ lw_good := kt 56 (by decide +kernel) (by decide +kernel)
theorem kV2__I__I_clone : Cond.selects "[I" ⟨"[I", "clone", "()Ljava/lang/Object;"⟩ ⟨"java/lang/Object", "clone", "()Ljava/lang/Object;"⟩ ∈ lw_good := kt 57 (by decide +kernel) (by decide +kernel)
theorem kL_X1_16 : Cond.classLink RX1 16 "[I" ∈ lw_good := kt 59 (by decide +kernel) (by decide +kernel)
theorem kF_X1_20 : Cond.fieldLink RX1 20 "EvenGranary$Edict" "numbers" "[I" ∈ lw_good := kt 60 (by decide +kernel) (by decide +kernel)
theorem kF_X1_23 : Cond.fieldLink RX1 23 "EvenGranary$Edict" "draft" "[I" ∈ lw_good := kt 61 (by decide +kernel) (by decide +kernel)
theorem kL_X7_23 : Cond.classLink RX7 23 RX2 ∈ lw_good := kt 67 (by decide +kernel) (by decide +kernel)
theorem kT_X2 : Cond.instantiable RX2 4 ∈ lw_good := kt 68 (by decide +kernel) (by decide +kernel)
theorem kM_X7_25 : Cond.methodLink RX7 25 yX2_init ∈ lw_good := kt 69 (by decide +kernel) (by decide +kernel)
theorem kI_X2_init : Cond.instanceMethod yX2_init ∈ lw_good := kt 70 (by decide +kernel) (by decide +kernel)
theorem kC_X2_init : Cond.code yX2_init cX2_init 1 none ∈ lw_good := kt 71 (by decide +kernel) (by decide +kernel)
theorem kM_X2_1 : Cond.methodLink RX2 1 objectInit ∈ lw_good := kt 72 (by decide +kernel) (by decide +kernel)
theorem kL_X2_7 : Cond.classLink RX2 7 RJx4a65c ∈ lw_good := kt 73 (by decide +kernel) (by decide +kernel)
theorem kT_Jx4a65c : Cond.instantiable RJx4a65c 3 ∈ lw_good := kt 74 (by decide +kernel) (by decide +kernel)
theorem kM_X2_9 : Cond.methodLink RX2 9 yJx4a65c_init_da8c8 ∈ lw_good := kt 75 (by decide +kernel) (by decide +kernel)
theorem kI_Jx4a65c_init_da8c8 : Cond.instanceMethod yJx4a65c_init_da8c8 ∈ lw_good := kt 76 (by decide +kernel) (by decide +kernel)
theorem kC_Jx4a65c_init_da8c8 : Cond.code yJx4a65c_init_da8c8 cJx4a65c_init_da8c8 1 none ∈ lw_good := kt 77 (by decide +kernel) (by decide +kernel)
theorem kM_Jx4a65c_1 : Cond.methodLink RJx4a65c 1 yJxc12de_init_da8c8 ∈ lw_good := kt 78 (by decide +kernel) (by decide +kernel)
theorem kI_Jxc12de_init_da8c8 : Cond.instanceMethod yJxc12de_init_da8c8 ∈ lw_good := kt 79 (by decide +kernel) (by decide +kernel)
theorem kC_Jxc12de_init_da8c8 : Cond.code yJxc12de_init_da8c8 cJxc12de_init_da8c8 1 none ∈ lw_good := kt 80 (by decide +kernel) (by decide +kernel)
theorem kM_Jxc12de_1 : Cond.methodLink RJxc12de 1 yJxa1e45_init_da8c8 ∈ lw_good := kt 81 (by decide +kernel) (by decide +kernel)
theorem kI_Jxa1e45_init_da8c8 : Cond.instanceMethod yJxa1e45_init_da8c8 ∈ lw_good := kt 82 (by decide +kernel) (by decide +kernel)
theorem kC_Jxa1e45_init_da8c8 : Cond.code yJxa1e45_init_da8c8 cJxa1e45_init_da8c8 1 none ∈ lw_good := kt 83 (by decide +kernel) (by decide +kernel)
theorem kM_Jxa1e45_1 : Cond.methodLink RJxa1e45 1 objectInit ∈ lw_good := kt 84 (by decide +kernel) (by decide +kernel)
theorem kF_Jx4a65c_39 : Cond.fieldLink RJx4a65c 39 "java/util/ArrayList" "DEFAULTCAPACITY_EMPTY_ELEMENTDATA" "[Ljava/lang/Object;" ∈ lw_good := kt 85 (by decide +kernel) (by decide +kernel)
theorem kF_Jx4a65c_9 : Cond.fieldLink RJx4a65c 9 "java/util/ArrayList" "elementData" "[Ljava/lang/Object;" ∈ lw_good := kt 87 (by decide +kernel) (by decide +kernel)
theorem kF_Jx4a65c_48 : Cond.fieldLink RJx4a65c 48 "java/util/ArrayList" "size" "I" ∈ lw_good := kt 88 (by decide +kernel) (by decide +kernel)
theorem kF_Jxc12de_7 : Cond.fieldLink RJxc12de 7 "java/util/AbstractList" "modCount" "I" ∈ lw_good := kt 89 (by decide +kernel) (by decide +kernel)
theorem kF_Jx4a65c_63 : Cond.fieldLink RJx4a65c 63 "java/util/ArrayList" "modCount" "I" ∈ lw_good := kt 90 (by decide +kernel) (by decide +kernel)
theorem kL_X2_16 : Cond.classLink RX2 16 RX0 ∈ lw_good := kt 99 (by decide +kernel) (by decide +kernel)
theorem kT_X0 : Cond.instantiable RX0 4 ∈ lw_good := kt 100 (by decide +kernel) (by decide +kernel)
theorem kM_X2_18 : Cond.methodLink RX2 18 yX0_init ∈ lw_good := kt 101 (by decide +kernel) (by decide +kernel)
theorem kI_X0_init : Cond.instanceMethod yX0_init ∈ lw_good := kt 102 (by decide +kernel) (by decide +kernel)
theorem kC_X0_init : Cond.code yX0_init cX0_init 1 none ∈ lw_good := kt 103 (by decide +kernel) (by decide +kernel)
theorem kM_X0_3 : Cond.methodLink RX0 3 objectInit ∈ lw_good := kt 104 (by decide +kernel) (by decide +kernel)
theorem kF_X0_11 : Cond.fieldLink RX0 11 "EvenGranary$Convoys" "targets" "[I" ∈ lw_good := kt 105 (by decide +kernel) (by decide +kernel)
theorem kF_X0_15 : Cond.fieldLink RX0 15 "EvenGranary$Convoys" "arrivals" "[I" ∈ lw_good := kt 106 (by decide +kernel) (by decide +kernel)
theorem kF_X0_18 : Cond.fieldLink RX0 18 "EvenGranary$Convoys" "loads" "[I" ∈ lw_good := kt 107 (by decide +kernel) (by decide +kernel)
theorem kF_X0_21 : Cond.fieldLink RX0 21 "EvenGranary$Convoys" "size" "I" ∈ lw_good := kt 108 (by decide +kernel) (by decide +kernel)
theorem kF_X2_61 : Cond.fieldLink RX2 61 "EvenGranary$Realm" "month" "I" ∈ lw_good := kt 118 (by decide +kernel) (by decide +kernel)
theorem kF_X7_110 : Cond.fieldLink RX7 110 "EvenGranary$Realm" "month" "I" ∈ lw_good := kt 119 (by decide +kernel) (by decide +kernel)
theorem kF_X7_102 : Cond.fieldLink RX7 102 "EvenGranary$Realm" "coin" "J" ∈ lw_good := kt 120 (by decide +kernel) (by decide +kernel)
theorem kF_X2_96 : Cond.fieldLink RX2 96 "EvenGranary$Realm" "coin" "J" ∈ lw_good := kt 121 (by decide +kernel) (by decide +kernel)
theorem kF_X2_10 : Cond.fieldLink RX2 10 "EvenGranary$Realm" "towns" "Ljava/util/ArrayList;" ∈ lw_good := kt 122 (by decide +kernel) (by decide +kernel)
theorem kF_X2_19 : Cond.fieldLink RX2 19 "EvenGranary$Realm" "convoys" "LEvenGranary$Convoys;" ∈ lw_good := kt 123 (by decide +kernel) (by decide +kernel)
theorem kL_X7_33 : Cond.classLink RX7 33 RJx4a65c ∈ lw_good := kt 133 (by decide +kernel) (by decide +kernel)
theorem kM_X7_35 : Cond.methodLink RX7 35 yJx4a65c_init_da8c8 ∈ lw_good := kt 134 (by decide +kernel) (by decide +kernel)
theorem kF_X7_10 : Cond.fieldLink RX7 10 "EvenGranary" "tape" "LEvenGranary$Tape;" ∈ lw_good := kt 135 (by decide +kernel) (by decide +kernel)
theorem kF_X7_19 : Cond.fieldLink RX7 19 "EvenGranary" "law" "LEvenGranary$Edict;" ∈ lw_good := kt 136 (by decide +kernel) (by decide +kernel)
theorem kF_X7_26 : Cond.fieldLink RX7 26 "EvenGranary" "realm" "LEvenGranary$Realm;" ∈ lw_good := kt 137 (by decide +kernel) (by decide +kernel)
theorem kF_X7_30 : Cond.fieldLink RX7 30 "EvenGranary" "trial" "LEvenGranary$Realm;" ∈ lw_good := kt 138 (by decide +kernel) (by decide +kernel)
theorem kF_X7_36 : Cond.fieldLink RX7 36 "EvenGranary" "roads" "Ljava/util/ArrayList;" ∈ lw_good := kt 139 (by decide +kernel) (by decide +kernel)
theorem kM_L_13 : Cond.methodLink RL 13 yX7_feed ∈ lw_good := kt 151 (by decide +kernel) (by decide +kernel)
theorem kI_X7_feed : Cond.instanceMethod yX7_feed ∈ lw_good := kt 152 (by decide +kernel) (by decide +kernel)
theorem kV_X7_feed : Cond.selects RX7 yX7_feed yX7_feed ∈ lw_good := kt 153 (by decide +kernel) (by decide +kernel)
theorem kC_X7_feed : Cond.code yX7_feed cX7_feed 6 (some .int) ∈ lw_good := kt 154 (by decide +kernel) (by decide +kernel)
theorem kM_X7_40 : Cond.methodLink RX7 40 yX5_hasRoomFor ∈ lw_good := kt 155 (by decide +kernel) (by decide +kernel)
theorem kI_X5_hasRoomFor : Cond.instanceMethod yX5_hasRoomFor ∈ lw_good := kt 156 (by decide +kernel) (by decide +kernel)
theorem kV_X5_hasRoomFor : Cond.selects RX5 yX5_hasRoomFor yX5_hasRoomFor ∈ lw_good := kt 157 (by decide +kernel) (by decide +kernel)
theorem kC_X5_hasRoomFor : Cond.code yX5_hasRoomFor cX5_hasRoomFor 2 (some .boolean) ∈ lw_good := kt 158 (by decide +kernel) (by decide +kernel)
theorem kM_X7_44 : Cond.methodLink RX7 44 yX5_append ∈ lw_good := kt 159 (by decide +kernel) (by decide +kernel)
theorem kI_X5_append : Cond.instanceMethod yX5_append ∈ lw_good := kt 160 (by decide +kernel) (by decide +kernel)
theorem kV_X5_append : Cond.selects RX5 yX5_append yX5_append ∈ lw_good := kt 161 (by decide +kernel) (by decide +kernel)
theorem kC_X5_append : Cond.code yX5_append cX5_append 3 none ∈ lw_good := kt 162 (by decide +kernel) (by decide +kernel)
theorem kM_X7_48 : Cond.methodLink RX7 48 yX5_length ∈ lw_good := kt 163 (by decide +kernel) (by decide +kernel)
theorem kI_X5_length : Cond.instanceMethod yX5_length ∈ lw_good := kt 164 (by decide +kernel) (by decide +kernel)
theorem kV_X5_length : Cond.selects RX5 yX5_length yX5_length ∈ lw_good := kt 165 (by decide +kernel) (by decide +kernel)
theorem kC_X5_length : Cond.code yX5_length cX5_length 1 (some .int) ∈ lw_good := kt 166 (by decide +kernel) (by decide +kernel)
theorem kM_L_18 : Cond.methodLink RL 18 yX7_edict ∈ lw_good := kt 167 (by decide +kernel) (by decide +kernel)
theorem kI_X7_edict : Cond.instanceMethod yX7_edict ∈ lw_good := kt 168 (by decide +kernel) (by decide +kernel)
theorem kV_X7_edict : Cond.selects RX7 yX7_edict yX7_edict ∈ lw_good := kt 169 (by decide +kernel) (by decide +kernel)
theorem kC_X7_edict : Cond.code yX7_edict cX7_edict 3 (some .int) ∈ lw_good := kt 170 (by decide +kernel) (by decide +kernel)
theorem kM_X7_52 : Cond.methodLink RX7 52 yX1_proclaim ∈ lw_good := kt 171 (by decide +kernel) (by decide +kernel)
theorem kI_X1_proclaim : Cond.instanceMethod yX1_proclaim ∈ lw_good := kt 172 (by decide +kernel) (by decide +kernel)
theorem kV_X1_proclaim : Cond.selects RX1 yX1_proclaim yX1_proclaim ∈ lw_good := kt 173 (by decide +kernel) (by decide +kernel)
theorem kC_X1_proclaim : Cond.code yX1_proclaim cX1_proclaim 9 (some .int) ∈ lw_good := kt 174 (by decide +kernel) (by decide +kernel)
theorem kM_X1_34 : Cond.methodLink RX1 34 ⟨"java/lang/System", "arraycopy", "(Ljava/lang/Object;ILjava/lang/Object;II)V"⟩ ∈ lw_good := kt 175 (by decide +kernel) (by decide +kernel)
theorem kS_System_arraycopy : Cond.static ⟨"java/lang/System", "arraycopy", "(Ljava/lang/Object;ILjava/lang/Object;II)V"⟩ ∈ lw_good := kt 176 (by decide +kernel) (by decide +kernel)
theorem kX_System_arraycopy : Cond.native ⟨"java/lang/System", "arraycopy", "(Ljava/lang/Object;ILjava/lang/Object;II)V"⟩ ∈ lw_good := kt 177 (by decide +kernel) (by decide +kernel)
theorem kM_X1_40 : Cond.methodLink RX1 40 yX5_byteAt ∈ lw_good := kt 178 (by decide +kernel) (by decide +kernel)
theorem kI_X5_byteAt : Cond.instanceMethod yX5_byteAt ∈ lw_good := kt 179 (by decide +kernel) (by decide +kernel)
theorem kV_X5_byteAt : Cond.selects RX5 yX5_byteAt yX5_byteAt ∈ lw_good := kt 180 (by decide +kernel) (by decide +kernel)
theorem kC_X5_byteAt : Cond.code yX5_byteAt cX5_byteAt 2 (some .int) ∈ lw_good := kt 181 (by decide +kernel) (by decide +kernel)
theorem kM_X1_45 : Cond.methodLink RX1 45 yX1_letterIndex ∈ lw_good := kt 182 (by decide +kernel) (by decide +kernel)
theorem kS_X1_letterIndex : Cond.static yX1_letterIndex ∈ lw_good := kt 183 (by decide +kernel) (by decide +kernel)
theorem kC_X1_letterIndex : Cond.code yX1_letterIndex cX1_letterIndex 1 (some .int) ∈ lw_good := kt 184 (by decide +kernel) (by decide +kernel)
theorem kM_X1_28 : Cond.methodLink RX1 28 yJ0_indexOf_0f7a4 ∈ lw_good := kt 186 (by decide +kernel) (by decide +kernel)
theorem kI_J0_indexOf_0f7a4 : Cond.instanceMethod yJ0_indexOf_0f7a4 ∈ lw_good := kt 187 (by decide +kernel) (by decide +kernel)
theorem kV_J0_indexOf_0f7a4 : Cond.selects RJ0 yJ0_indexOf_0f7a4 yJ0_indexOf_0f7a4 ∈ lw_good := kt 188 (by decide +kernel) (by decide +kernel)
theorem kC_J0_indexOf_0f7a4 : Cond.code yJ0_indexOf_0f7a4 cJ0_indexOf_0f7a4 2 (some .int) ∈ lw_good := kt 189 (by decide +kernel) (by decide +kernel)
theorem kM_J0_633 : Cond.methodLink RJ0 633 yJ0_indexOf_7cf53 ∈ lw_good := kt 190 (by decide +kernel) (by decide +kernel)
theorem kI_J0_indexOf_7cf53 : Cond.instanceMethod yJ0_indexOf_7cf53 ∈ lw_good := kt 191 (by decide +kernel) (by decide +kernel)
theorem kV_J0_indexOf_7cf53 : Cond.selects RJ0 yJ0_indexOf_7cf53 yJ0_indexOf_7cf53 ∈ lw_good := kt 192 (by decide +kernel) (by decide +kernel)
theorem kC_J0_indexOf_7cf53 : Cond.code yJ0_indexOf_7cf53 cJ0_indexOf_7cf53 3 (some .int) ∈ lw_good := kt 193 (by decide +kernel) (by decide +kernel)
theorem kM_J0_492 : Cond.methodLink RJ0 492 yJ0_isLatin1_aae02 ∈ lw_good := kt 194 (by decide +kernel) (by decide +kernel)
theorem kI_J0_isLatin1_aae02 : Cond.instanceMethod yJ0_isLatin1_aae02 ∈ lw_good := kt 195 (by decide +kernel) (by decide +kernel)
theorem kV_J0_isLatin1_aae02 : Cond.selects RJ0 yJ0_isLatin1_aae02 yJ0_isLatin1_aae02 ∈ lw_good := kt 196 (by decide +kernel) (by decide +kernel)
theorem kC_J0_isLatin1_aae02 : Cond.code yJ0_isLatin1_aae02 cJ0_isLatin1_aae02 1 (some .boolean) ∈ lw_good := kt 197 (by decide +kernel) (by decide +kernel)
theorem kF_J0_38 : Cond.fieldLink RJ0 38 "java/lang/String" "COMPACT_STRINGS" "Z" ∈ lw_good := kt 198 (by decide +kernel) (by decide +kernel)
theorem kM_J0_505 : Cond.methodLink RJ0 505 yJ0_length_8abf5 ∈ lw_good := kt 200 (by decide +kernel) (by decide +kernel)
theorem kI_J0_length_8abf5 : Cond.instanceMethod yJ0_length_8abf5 ∈ lw_good := kt 201 (by decide +kernel) (by decide +kernel)
theorem kV_J0_length_8abf5 : Cond.selects RJ0 yJ0_length_8abf5 yJ0_length_8abf5 ∈ lw_good := kt 202 (by decide +kernel) (by decide +kernel)
theorem kC_J0_length_8abf5 : Cond.code yJ0_length_8abf5 cJ0_length_8abf5 1 (some .int) ∈ lw_good := kt 203 (by decide +kernel) (by decide +kernel)
theorem kM_J0_335 : Cond.methodLink RJ0 335 yJ0_coder_7d493 ∈ lw_good := kt 204 (by decide +kernel) (by decide +kernel)
theorem kI_J0_coder_7d493 : Cond.instanceMethod yJ0_coder_7d493 ∈ lw_good := kt 205 (by decide +kernel) (by decide +kernel)
theorem kV_J0_coder_7d493 : Cond.selects RJ0 yJ0_coder_7d493 yJ0_coder_7d493 ∈ lw_good := kt 206 (by decide +kernel) (by decide +kernel)
theorem kC_J0_coder_7d493 : Cond.code yJ0_coder_7d493 cJ0_coder_7d493 1 (some .byte) ∈ lw_good := kt 207 (by decide +kernel) (by decide +kernel)
theorem kM_J0_637 : Cond.methodLink RJ0 637 yJ1_indexOf_4cfef ∈ lw_good := kt 208 (by decide +kernel) (by decide +kernel)
theorem kS_J1_indexOf_4cfef : Cond.static yJ1_indexOf_4cfef ∈ lw_good := kt 209 (by decide +kernel) (by decide +kernel)
theorem kC_J1_indexOf_4cfef : Cond.code yJ1_indexOf_4cfef cJ1_indexOf_4cfef 4 (some .int) ∈ lw_good := kt 210 (by decide +kernel) (by decide +kernel)
theorem kM_J1_88 : Cond.methodLink RJ1 88 yJ1_canEncode_9a6ad ∈ lw_good := kt 211 (by decide +kernel) (by decide +kernel)
theorem kS_J1_canEncode_9a6ad : Cond.static yJ1_canEncode_9a6ad ∈ lw_good := kt 212 (by decide +kernel) (by decide +kernel)
theorem kC_J1_canEncode_9a6ad : Cond.code yJ1_canEncode_9a6ad cJ1_canEncode_9a6ad 1 (some .boolean) ∈ lw_good := kt 213 (by decide +kernel) (by decide +kernel)
theorem kM_J1_92 : Cond.methodLink RJ1 92 yJ9_max_7cf53 ∈ lw_good := kt 214 (by decide +kernel) (by decide +kernel)
theorem kS_J9_max_7cf53 : Cond.static yJ9_max_7cf53 ∈ lw_good := kt 215 (by decide +kernel) (by decide +kernel)
theorem kC_J9_max_7cf53 : Cond.code yJ9_max_7cf53 cJ9_max_7cf53 2 (some .int) ∈ lw_good := kt 216 (by decide +kernel) (by decide +kernel)
theorem kM_J1_38 : Cond.methodLink RJ1 38 yJ9_min_7cf53 ∈ lw_good := kt 217 (by decide +kernel) (by decide +kernel)
theorem kS_J9_min_7cf53 : Cond.static yJ9_min_7cf53 ∈ lw_good := kt 218 (by decide +kernel) (by decide +kernel)
theorem kC_J9_min_7cf53 : Cond.code yJ9_min_7cf53 cJ9_min_7cf53 2 (some .int) ∈ lw_good := kt 219 (by decide +kernel) (by decide +kernel)
theorem kM_J1_95 : Cond.methodLink RJ1 95 yJ1_indexOfChar_4cfef ∈ lw_good := kt 220 (by decide +kernel) (by decide +kernel)
theorem kS_J1_indexOfChar_4cfef : Cond.static yJ1_indexOfChar_4cfef ∈ lw_good := kt 221 (by decide +kernel) (by decide +kernel)
theorem kC_J1_indexOfChar_4cfef : Cond.code yJ1_indexOfChar_4cfef cJ1_indexOfChar_4cfef 6 (some .int) ∈ lw_good := kt 222 (by decide +kernel) (by decide +kernel)
theorem kM_J0_640 : Cond.methodLink RJ0 640 yJ2_indexOf_4cfef ∈ lw_good := kt 223 (by decide +kernel) (by decide +kernel)
theorem kS_J2_indexOf_4cfef : Cond.static yJ2_indexOf_4cfef ∈ lw_good := kt 224 (by decide +kernel) (by decide +kernel)
theorem kC_J2_indexOf_4cfef : Cond.code yJ2_indexOf_4cfef cJ2_indexOf_4cfef 4 (some .int) ∈ lw_good := kt 225 (by decide +kernel) (by decide +kernel)
theorem kM_J2_224 : Cond.methodLink RJ2 224 yJ9_max_7cf53 ∈ lw_good := kt 226 (by decide +kernel) (by decide +kernel)
theorem kM_J2_183 : Cond.methodLink RJ2 183 yJ9_min_7cf53 ∈ lw_good := kt 227 (by decide +kernel) (by decide +kernel)
theorem kK_J2_227 : Cond.constant RJ2 227 (65536) ∈ lw_good := kt 228 (by decide +kernel) (by decide +kernel)
theorem kM_J2_228 : Cond.methodLink RJ2 228 yJ2_indexOfChar_4cfef ∈ lw_good := kt 229 (by decide +kernel) (by decide +kernel)
theorem kS_J2_indexOfChar_4cfef : Cond.static yJ2_indexOfChar_4cfef ∈ lw_good := kt 230 (by decide +kernel) (by decide +kernel)
theorem kC_J2_indexOfChar_4cfef : Cond.code yJ2_indexOfChar_4cfef cJ2_indexOfChar_4cfef 4 (some .int) ∈ lw_good := kt 231 (by decide +kernel) (by decide +kernel)
theorem kM_J2_96 : Cond.methodLink RJ2 96 yJ2_checkBoundsBeginEnd_d044e ∈ lw_good := kt 232 (by decide +kernel) (by decide +kernel)
theorem kS_J2_checkBoundsBeginEnd_d044e : Cond.static yJ2_checkBoundsBeginEnd_d044e ∈ lw_good := kt 233 (by decide +kernel) (by decide +kernel)
theorem kC_J2_checkBoundsBeginEnd_d044e : Cond.code yJ2_checkBoundsBeginEnd_d044e cJ2_checkBoundsBeginEnd_d044e 3 none ∈ lw_good := kt 234 (by decide +kernel) (by decide +kernel)
theorem kM_J2_48 : Cond.methodLink RJ2 48 yJ2_length_9d52b ∈ lw_good := kt 235 (by decide +kernel) (by decide +kernel)
theorem kS_J2_length_9d52b : Cond.static yJ2_length_9d52b ∈ lw_good := kt 236 (by decide +kernel) (by decide +kernel)
theorem kC_J2_length_9d52b : Cond.code yJ2_length_9d52b cJ2_length_9d52b 1 (some .int) ∈ lw_good := kt 237 (by decide +kernel) (by decide +kernel)
theorem kM_J2_241 : Cond.methodLink RJ2 241 yJ0_checkBoundsBeginEnd_23922 ∈ lw_good := kt 238 (by decide +kernel) (by decide +kernel)
theorem kS_J0_checkBoundsBeginEnd_23922 : Cond.static yJ0_checkBoundsBeginEnd_23922 ∈ lw_good := kt 239 (by decide +kernel) (by decide +kernel)
theorem kC_J0_checkBoundsBeginEnd_23922 : Cond.code yJ0_checkBoundsBeginEnd_23922 cJ0_checkBoundsBeginEnd_23922 3 none ∈ lw_good := kt 240 (by decide +kernel) (by decide +kernel)
theorem kF_J0_1053 : Cond.fieldLink RJ0 1053 "jdk/internal/util/Preconditions" "SIOOBE_FORMATTER" "Ljava/util/function/BiFunction;" ∈ lw_good := kt 241 (by decide +kernel) (by decide +kernel)
theorem kM_J0_1062 : Cond.methodLink RJ0 1062 yJ3_checkFromToIndex_8c36e ∈ lw_good := kt 243 (by decide +kernel) (by decide +kernel)
theorem kS_J3_checkFromToIndex_8c36e : Cond.static yJ3_checkFromToIndex_8c36e ∈ lw_good := kt 244 (by decide +kernel) (by decide +kernel)
theorem kC_J3_checkFromToIndex_8c36e : Cond.code yJ3_checkFromToIndex_8c36e cJ3_checkFromToIndex_8c36e 4 (some .int) ∈ lw_good := kt 245 (by decide +kernel) (by decide +kernel)
theorem kM_J2_244 : Cond.methodLink RJ2 244 yJ2_indexOfCharUnsafe_4cfef ∈ lw_good := kt 246 (by decide +kernel) (by decide +kernel)
theorem kS_J2_indexOfCharUnsafe_4cfef : Cond.static yJ2_indexOfCharUnsafe_4cfef ∈ lw_good := kt 247 (by decide +kernel) (by decide +kernel)
theorem kC_J2_indexOfCharUnsafe_4cfef : Cond.code yJ2_indexOfCharUnsafe_4cfef cJ2_indexOfCharUnsafe_4cfef 5 (some .int) ∈ lw_good := kt 248 (by decide +kernel) (by decide +kernel)
theorem kM_J2_71 : Cond.methodLink RJ2 71 yJ2_getChar_3b067 ∈ lw_good := kt 249 (by decide +kernel) (by decide +kernel)
theorem kS_J2_getChar_3b067 : Cond.static yJ2_getChar_3b067 ∈ lw_good := kt 250 (by decide +kernel) (by decide +kernel)
theorem kC_J2_getChar_3b067 : Cond.code yJ2_getChar_3b067 cJ2_getChar_3b067 2 (some .char) ∈ lw_good := kt 251 (by decide +kernel) (by decide +kernel)
theorem kF_J2_44 : Cond.fieldLink RJ2 44 "java/lang/StringUTF16" "$assertionsDisabled" "Z" ∈ lw_good := kt 252 (by decide +kernel) (by decide +kernel)
theorem kF_J2_59 : Cond.fieldLink RJ2 59 "java/lang/StringUTF16" "HI_BYTE_SHIFT" "I" ∈ lw_good := kt 254 (by decide +kernel) (by decide +kernel)
theorem kF_J2_63 : Cond.fieldLink RJ2 63 "java/lang/StringUTF16" "LO_BYTE_SHIFT" "I" ∈ lw_good := kt 256 (by decide +kernel) (by decide +kernel)
theorem kM_J2_232 : Cond.methodLink RJ2 232 yJ2_indexOfSupplementary_4cfef ∈ lw_good := kt 258 (by decide +kernel) (by decide +kernel)
theorem kS_J2_indexOfSupplementary_4cfef : Cond.static yJ2_indexOfSupplementary_4cfef ∈ lw_good := kt 259 (by decide +kernel) (by decide +kernel)
theorem kC_J2_indexOfSupplementary_4cfef : Cond.code yJ2_indexOfSupplementary_4cfef cJ2_indexOfSupplementary_4cfef 7 (some .int) ∈ lw_good := kt 260 (by decide +kernel) (by decide +kernel)
theorem kM_J2_164 : Cond.methodLink RJ2 164 yJ11_isValidCodePoint_9a6ad ∈ lw_good := kt 261 (by decide +kernel) (by decide +kernel)
theorem kS_J11_isValidCodePoint_9a6ad : Cond.static yJ11_isValidCodePoint_9a6ad ∈ lw_good := kt 262 (by decide +kernel) (by decide +kernel)
theorem kC_J11_isValidCodePoint_9a6ad : Cond.code yJ11_isValidCodePoint_9a6ad cJ11_isValidCodePoint_9a6ad 2 (some .boolean) ∈ lw_good := kt 263 (by decide +kernel) (by decide +kernel)
theorem kM_J2_157 : Cond.methodLink RJ2 157 yJ11_highSurrogate_5068e ∈ lw_good := kt 264 (by decide +kernel) (by decide +kernel)
theorem kS_J11_highSurrogate_5068e : Cond.static yJ11_highSurrogate_5068e ∈ lw_good := kt 265 (by decide +kernel) (by decide +kernel)
theorem kC_J11_highSurrogate_5068e : Cond.code yJ11_highSurrogate_5068e cJ11_highSurrogate_5068e 1 (some .char) ∈ lw_good := kt 266 (by decide +kernel) (by decide +kernel)
theorem kK_J11_110 : Cond.constant RJ11 110 (55232) ∈ lw_good := kt 267 (by decide +kernel) (by decide +kernel)
theorem kM_J2_161 : Cond.methodLink RJ2 161 yJ11_lowSurrogate_5068e ∈ lw_good := kt 268 (by decide +kernel) (by decide +kernel)
theorem kS_J11_lowSurrogate_5068e : Cond.static yJ11_lowSurrogate_5068e ∈ lw_good := kt 269 (by decide +kernel) (by decide +kernel)
theorem kC_J11_lowSurrogate_5068e : Cond.code yJ11_lowSurrogate_5068e cJ11_lowSurrogate_5068e 1 (some .char) ∈ lw_good := kt 270 (by decide +kernel) (by decide +kernel)
theorem kK_J11_76 : Cond.constant RJ11 76 (56320) ∈ lw_good := kt 271 (by decide +kernel) (by decide +kernel)
theorem kM_X1_48 : Cond.methodLink RX1 48 yX1_fault ∈ lw_good := kt 272 (by decide +kernel) (by decide +kernel)
theorem kS_X1_fault : Cond.static yX1_fault ∈ lw_good := kt 273 (by decide +kernel) (by decide +kernel)
theorem kC_X1_fault : Cond.code yX1_fault cX1_fault 2 (some .int) ∈ lw_good := kt 274 (by decide +kernel) (by decide +kernel)
theorem kM_X1_52 : Cond.methodLink RX1 52 yX1_digitsEnd ∈ lw_good := kt 275 (by decide +kernel) (by decide +kernel)
theorem kS_X1_digitsEnd : Cond.static yX1_digitsEnd ∈ lw_good := kt 276 (by decide +kernel) (by decide +kernel)
theorem kC_X1_digitsEnd : Cond.code yX1_digitsEnd cX1_digitsEnd 4 (some .int) ∈ lw_good := kt 277 (by decide +kernel) (by decide +kernel)
theorem kM_X1_56 : Cond.methodLink RX1 56 yX1_numberAt ∈ lw_good := kt 278 (by decide +kernel) (by decide +kernel)
theorem kS_X1_numberAt : Cond.static yX1_numberAt ∈ lw_good := kt 279 (by decide +kernel) (by decide +kernel)
theorem kC_X1_numberAt : Cond.code yX1_numberAt cX1_numberAt 5 (some .int) ∈ lw_good := kt 280 (by decide +kernel) (by decide +kernel)
theorem kF_X1_59 : Cond.fieldLink RX1 59 "EvenGranary$Edict" "LEAST" "[I" ∈ lw_good := kt 281 (by decide +kernel) (by decide +kernel)
theorem kF_X1_62 : Cond.fieldLink RX1 62 "EvenGranary$Edict" "MOST" "[I" ∈ lw_good := kt 283 (by decide +kernel) (by decide +kernel)
theorem kM_X7_56 : Cond.methodLink RX7 56 yX5_wipe ∈ lw_good := kt 285 (by decide +kernel) (by decide +kernel)
theorem kI_X5_wipe : Cond.instanceMethod yX5_wipe ∈ lw_good := kt 286 (by decide +kernel) (by decide +kernel)
theorem kV_X5_wipe : Cond.selects RX5 yX5_wipe yX5_wipe ∈ lw_good := kt 287 (by decide +kernel) (by decide +kernel)
theorem kC_X5_wipe : Cond.code yX5_wipe cX5_wipe 1 none ∈ lw_good := kt 288 (by decide +kernel) (by decide +kernel)
theorem kA_byte : Cond.arrayClass .byte ∈ lw_good := kt 289 (by decide +kernel) (by decide +kernel)
theorem kM_L_23 : Cond.methodLink RL 23 yX7_rule ∈ lw_good := kt 290 (by decide +kernel) (by decide +kernel)
theorem kI_X7_rule : Cond.instanceMethod yX7_rule ∈ lw_good := kt 291 (by decide +kernel) (by decide +kernel)
theorem kV_X7_rule : Cond.selects RX7 yX7_rule yX7_rule ∈ lw_good := kt 292 (by decide +kernel) (by decide +kernel)
theorem kC_X7_rule : Cond.code yX7_rule cX7_rule 3 (some .int) ∈ lw_good := kt 293 (by decide +kernel) (by decide +kernel)
theorem kM_X7_59 : Cond.methodLink RX7 59 yX1_letterIndex ∈ lw_good := kt 294 (by decide +kernel) (by decide +kernel)
theorem kM_X7_63 : Cond.methodLink RX7 63 yX1_number ∈ lw_good := kt 295 (by decide +kernel) (by decide +kernel)
theorem kI_X1_number : Cond.instanceMethod yX1_number ∈ lw_good := kt 296 (by decide +kernel) (by decide +kernel)
theorem kV_X1_number : Cond.selects RX1 yX1_number yX1_number ∈ lw_good := kt 297 (by decide +kernel) (by decide +kernel)
theorem kC_X1_number : Cond.code yX1_number cX1_number 2 (some .int) ∈ lw_good := kt 298 (by decide +kernel) (by decide +kernel)
theorem kM_L_27 : Cond.methodLink RL 27 yX7_town ∈ lw_good := kt 299 (by decide +kernel) (by decide +kernel)
theorem kI_X7_town : Cond.instanceMethod yX7_town ∈ lw_good := kt 300 (by decide +kernel) (by decide +kernel)
theorem kV_X7_town : Cond.selects RX7 yX7_town yX7_town ∈ lw_good := kt 301 (by decide +kernel) (by decide +kernel)
theorem kC_X7_town : Cond.code yX7_town cX7_town 4 (some .int) ∈ lw_good := kt 302 (by decide +kernel) (by decide +kernel)
theorem kM_X7_66 : Cond.methodLink RX7 66 yX2_townCount ∈ lw_good := kt 303 (by decide +kernel) (by decide +kernel)
theorem kI_X2_townCount : Cond.instanceMethod yX2_townCount ∈ lw_good := kt 304 (by decide +kernel) (by decide +kernel)
theorem kV_X2_townCount : Cond.selects RX2 yX2_townCount yX2_townCount ∈ lw_good := kt 305 (by decide +kernel) (by decide +kernel)
theorem kC_X2_townCount : Cond.code yX2_townCount cX2_townCount 1 (some .int) ∈ lw_good := kt 306 (by decide +kernel) (by decide +kernel)
theorem kM_X2_23 : Cond.methodLink RX2 23 yJx4a65c_size_8abf5 ∈ lw_good := kt 307 (by decide +kernel) (by decide +kernel)
theorem kI_Jx4a65c_size_8abf5 : Cond.instanceMethod yJx4a65c_size_8abf5 ∈ lw_good := kt 308 (by decide +kernel) (by decide +kernel)
theorem kV_Jx4a65c_size_8abf5 : Cond.selects RJx4a65c yJx4a65c_size_8abf5 yJx4a65c_size_8abf5 ∈ lw_good := kt 309 (by decide +kernel) (by decide +kernel)
theorem kC_Jx4a65c_size_8abf5 : Cond.code yJx4a65c_size_8abf5 cJx4a65c_size_8abf5 1 (some .int) ∈ lw_good := kt 310 (by decide +kernel) (by decide +kernel)
theorem kM_X7_69 : Cond.methodLink RX7 69 yX7_isWithin ∈ lw_good := kt 311 (by decide +kernel) (by decide +kernel)
theorem kS_X7_isWithin : Cond.static yX7_isWithin ∈ lw_good := kt 312 (by decide +kernel) (by decide +kernel)
theorem kC_X7_isWithin : Cond.code yX7_isWithin cX7_isWithin 3 (some .boolean) ∈ lw_good := kt 313 (by decide +kernel) (by decide +kernel)
theorem kK_X7_73 : Cond.constant RX7 73 (100000) ∈ lw_good := kt 314 (by decide +kernel) (by decide +kernel)
theorem kK_X7_74 : Cond.constant RX7 74 (50000) ∈ lw_good := kt 315 (by decide +kernel) (by decide +kernel)
theorem kL_X7_75 : Cond.classLink RX7 75 RX6 ∈ lw_good := kt 316 (by decide +kernel) (by decide +kernel)
theorem kT_X6 : Cond.instantiable RX6 10 ∈ lw_good := kt 317 (by decide +kernel) (by decide +kernel)
theorem kM_X7_77 : Cond.methodLink RX7 77 yX6_init ∈ lw_good := kt 318 (by decide +kernel) (by decide +kernel)
theorem kI_X6_init : Cond.instanceMethod yX6_init ∈ lw_good := kt 319 (by decide +kernel) (by decide +kernel)
theorem kC_X6_init : Cond.code yX6_init cX6_init 4 none ∈ lw_good := kt 320 (by decide +kernel) (by decide +kernel)
theorem kM_X6_1 : Cond.methodLink RX6 1 objectInit ∈ lw_good := kt 321 (by decide +kernel) (by decide +kernel)
theorem kL_X6_17 : Cond.classLink RX6 17 RX4 ∈ lw_good := kt 322 (by decide +kernel) (by decide +kernel)
theorem kT_X4 : Cond.instantiable RX4 8 ∈ lw_good := kt 323 (by decide +kernel) (by decide +kernel)
theorem kM_X6_19 : Cond.methodLink RX6 19 yX4_init ∈ lw_good := kt 324 (by decide +kernel) (by decide +kernel)
theorem kI_X4_init : Cond.instanceMethod yX4_init ∈ lw_good := kt 325 (by decide +kernel) (by decide +kernel)
theorem kC_X4_init : Cond.code yX4_init cX4_init 2 none ∈ lw_good := kt 326 (by decide +kernel) (by decide +kernel)
theorem kM_X4_3 : Cond.methodLink RX4 3 objectInit ∈ lw_good := kt 327 (by decide +kernel) (by decide +kernel)
theorem kF_X4_11 : Cond.fieldLink RX4 11 "EvenGranary$Store" "months" "[I" ∈ lw_good := kt 328 (by decide +kernel) (by decide +kernel)
theorem kF_X4_15 : Cond.fieldLink RX4 15 "EvenGranary$Store" "books" "[I" ∈ lw_good := kt 329 (by decide +kernel) (by decide +kernel)
theorem kF_X4_18 : Cond.fieldLink RX4 18 "EvenGranary$Store" "trues" "[I" ∈ lw_good := kt 330 (by decide +kernel) (by decide +kernel)
theorem kF_X4_21 : Cond.fieldLink RX4 21 "EvenGranary$Store" "measured" "[I" ∈ lw_good := kt 331 (by decide +kernel) (by decide +kernel)
theorem kF_X4_31 : Cond.fieldLink RX4 31 "EvenGranary$Store" "lots" "I" ∈ lw_good := kt 332 (by decide +kernel) (by decide +kernel)
theorem kF_X4_24 : Cond.fieldLink RX4 24 "EvenGranary$Store" "room" "I" ∈ lw_good := kt 333 (by decide +kernel) (by decide +kernel)
theorem kF_X4_28 : Cond.fieldLink RX4 28 "EvenGranary$Store" "held" "I" ∈ lw_good := kt 334 (by decide +kernel) (by decide +kernel)
theorem kF_X4_34 : Cond.fieldLink RX4 34 "EvenGranary$Store" "found" "J" ∈ lw_good := kt 335 (by decide +kernel) (by decide +kernel)
theorem kF_X6_7 : Cond.fieldLink RX6 7 "EvenGranary$Town" "eats" "I" ∈ lw_good := kt 353 (by decide +kernel) (by decide +kernel)
theorem kF_X7_177 : Cond.fieldLink RX7 177 "EvenGranary$Town" "eats" "I" ∈ lw_good := kt 354 (by decide +kernel) (by decide +kernel)
theorem kF_X6_13 : Cond.fieldLink RX6 13 "EvenGranary$Town" "market" "J" ∈ lw_good := kt 355 (by decide +kernel) (by decide +kernel)
theorem kF_X2_143 : Cond.fieldLink RX2 143 "EvenGranary$Town" "market" "J" ∈ lw_good := kt 356 (by decide +kernel) (by decide +kernel)
theorem kF_X7_180 : Cond.fieldLink RX7 180 "EvenGranary$Town" "market" "J" ∈ lw_good := kt 357 (by decide +kernel) (by decide +kernel)
theorem kF_X6_22 : Cond.fieldLink RX6 22 "EvenGranary$Town" "store" "LEvenGranary$Store;" ∈ lw_good := kt 358 (by decide +kernel) (by decide +kernel)
theorem kF_X2_45 : Cond.fieldLink RX2 45 "EvenGranary$Town" "store" "LEvenGranary$Store;" ∈ lw_good := kt 359 (by decide +kernel) (by decide +kernel)
theorem kF_X7_136 : Cond.fieldLink RX7 136 "EvenGranary$Town" "store" "LEvenGranary$Store;" ∈ lw_good := kt 360 (by decide +kernel) (by decide +kernel)
theorem kF_X6_42 : Cond.fieldLink RX6 42 "EvenGranary$Town" "harvest" "I" ∈ lw_good := kt 361 (by decide +kernel) (by decide +kernel)
theorem kF_X7_106 : Cond.fieldLink RX7 106 "EvenGranary$Town" "harvest" "I" ∈ lw_good := kt 362 (by decide +kernel) (by decide +kernel)
theorem kF_X6_45 : Cond.fieldLink RX6 45 "EvenGranary$Town" "owes" "J" ∈ lw_good := kt 363 (by decide +kernel) (by decide +kernel)
theorem kF_X7_151 : Cond.fieldLink RX7 151 "EvenGranary$Town" "owes" "J" ∈ lw_good := kt 364 (by decide +kernel) (by decide +kernel)
theorem kF_X2_75 : Cond.fieldLink RX2 75 "EvenGranary$Town" "hunger" "J" ∈ lw_good := kt 365 (by decide +kernel) (by decide +kernel)
theorem kF_X6_64 : Cond.fieldLink RX6 64 "EvenGranary$Town" "hunger" "J" ∈ lw_good := kt 366 (by decide +kernel) (by decide +kernel)
theorem kF_X7_195 : Cond.fieldLink RX7 195 "EvenGranary$Town" "hunger" "J" ∈ lw_good := kt 367 (by decide +kernel) (by decide +kernel)
theorem kF_X6_67 : Cond.fieldLink RX6 67 "EvenGranary$Town" "spoilt" "J" ∈ lw_good := kt 368 (by decide +kernel) (by decide +kernel)
theorem kF_X7_198 : Cond.fieldLink RX7 198 "EvenGranary$Town" "spoilt" "J" ∈ lw_good := kt 369 (by decide +kernel) (by decide +kernel)
theorem kF_X6_51 : Cond.fieldLink RX6 51 "EvenGranary$Town" "bought" "J" ∈ lw_good := kt 370 (by decide +kernel) (by decide +kernel)
theorem kF_X7_201 : Cond.fieldLink RX7 201 "EvenGranary$Town" "bought" "J" ∈ lw_good := kt 371 (by decide +kernel) (by decide +kernel)
theorem kF_X6_57 : Cond.fieldLink RX6 57 "EvenGranary$Town" "sold" "J" ∈ lw_good := kt 372 (by decide +kernel) (by decide +kernel)
theorem kF_X7_204 : Cond.fieldLink RX7 204 "EvenGranary$Town" "sold" "J" ∈ lw_good := kt 373 (by decide +kernel) (by decide +kernel)
theorem kF_X7_157 : Cond.fieldLink RX7 157 "EvenGranary$Town" "stolen" "J" ∈ lw_good := kt 374 (by decide +kernel) (by decide +kernel)
theorem kM_X7_80 : Cond.methodLink RX7 80 yX2_settle ∈ lw_good := kt 396 (by decide +kernel) (by decide +kernel)
theorem kI_X2_settle : Cond.instanceMethod yX2_settle ∈ lw_good := kt 397 (by decide +kernel) (by decide +kernel)
theorem kV_X2_settle : Cond.selects RX2 yX2_settle yX2_settle ∈ lw_good := kt 398 (by decide +kernel) (by decide +kernel)
theorem kC_X2_settle : Cond.code yX2_settle cX2_settle 2 none ∈ lw_good := kt 399 (by decide +kernel) (by decide +kernel)
theorem kM_X2_33 : Cond.methodLink RX2 33 yJx4a65c_add_9ea2d ∈ lw_good := kt 400 (by decide +kernel) (by decide +kernel)
theorem kI_Jx4a65c_add_9ea2d : Cond.instanceMethod yJx4a65c_add_9ea2d ∈ lw_good := kt 401 (by decide +kernel) (by decide +kernel)
theorem kV_Jx4a65c_add_9ea2d : Cond.selects RJx4a65c yJx4a65c_add_9ea2d yJx4a65c_add_9ea2d ∈ lw_good := kt 402 (by decide +kernel) (by decide +kernel)
theorem kC_Jx4a65c_add_9ea2d : Cond.code yJx4a65c_add_9ea2d cJx4a65c_add_9ea2d 2 (some .boolean) ∈ lw_good := kt 403 (by decide +kernel) (by decide +kernel)
theorem kM_Jx4a65c_131 : Cond.methodLink RJx4a65c 131 yJx4a65c_add_72be8 ∈ lw_good := kt 404 (by decide +kernel) (by decide +kernel)
theorem kI_Jx4a65c_add_72be8 : Cond.instanceMethod yJx4a65c_add_72be8 ∈ lw_good := kt 406 (by decide +kernel) (by decide +kernel)
theorem kC_Jx4a65c_add_72be8 : Cond.code yJx4a65c_add_72be8 cJx4a65c_add_72be8 4 none ∈ lw_good := kt 407 (by decide +kernel) (by decide +kernel)
theorem kM_Jx4a65c_129 : Cond.methodLink RJx4a65c 129 yJx4a65c_grow_d5877 ∈ lw_good := kt 408 (by decide +kernel) (by decide +kernel)
theorem kI_Jx4a65c_grow_d5877 : Cond.instanceMethod yJx4a65c_grow_d5877 ∈ lw_good := kt 410 (by decide +kernel) (by decide +kernel)
theorem kC_Jx4a65c_grow_d5877 : Cond.code yJx4a65c_grow_d5877 cJx4a65c_grow_d5877 1 (some (.array (.object "java/lang/Object"))) ∈ lw_good := kt 411 (by decide +kernel) (by decide +kernel)
theorem kM_Jx4a65c_69 : Cond.methodLink RJx4a65c 69 yJx4a65c_grow_92f84 ∈ lw_good := kt 412 (by decide +kernel) (by decide +kernel)
theorem kI_Jx4a65c_grow_92f84 : Cond.instanceMethod yJx4a65c_grow_92f84 ∈ lw_good := kt 414 (by decide +kernel) (by decide +kernel)
theorem kC_Jx4a65c_grow_92f84 : Cond.code yJx4a65c_grow_92f84 cJx4a65c_grow_92f84 4 (some (.array (.object "java/lang/Object"))) ∈ lw_good := kt 415 (by decide +kernel) (by decide +kernel)
theorem kM_Jx4a65c_73 : Cond.methodLink RJx4a65c 73 yJ8_newLength_cabcc ∈ lw_good := kt 416 (by decide +kernel) (by decide +kernel)
theorem kS_J8_newLength_cabcc : Cond.static yJ8_newLength_cabcc ∈ lw_good := kt 417 (by decide +kernel) (by decide +kernel)
theorem kC_J8_newLength_cabcc : Cond.code yJ8_newLength_cabcc cJ8_newLength_cabcc 4 (some .int) ∈ lw_good := kt 418 (by decide +kernel) (by decide +kernel)
theorem kM_J8_194 : Cond.methodLink RJ8 194 yJ9_max_7cf53 ∈ lw_good := kt 419 (by decide +kernel) (by decide +kernel)
theorem kK_J8_200 : Cond.constant RJ8 200 (2147483639) ∈ lw_good := kt 420 (by decide +kernel) (by decide +kernel)
theorem kM_J8_201 : Cond.methodLink RJ8 201 yJ8_hugeLength_7cf53 ∈ lw_good := kt 421 (by decide +kernel) (by decide +kernel)
theorem kS_J8_hugeLength_7cf53 : Cond.static yJ8_hugeLength_7cf53 ∈ lw_good := kt 422 (by decide +kernel) (by decide +kernel)
theorem kC_J8_hugeLength_7cf53 : Cond.code yJ8_hugeLength_7cf53 cJ8_hugeLength_7cf53 3 (some .int) ∈ lw_good := kt 423 (by decide +kernel) (by decide +kernel)
theorem kM_Jx4a65c_66 : Cond.methodLink RJx4a65c 66 yJ7_copyOf_1904c ∈ lw_good := kt 424 (by decide +kernel) (by decide +kernel)
theorem kS_J7_copyOf_1904c : Cond.static yJ7_copyOf_1904c ∈ lw_good := kt 425 (by decide +kernel) (by decide +kernel)
theorem kC_J7_copyOf_1904c : Cond.code yJ7_copyOf_1904c cJ7_copyOf_1904c 2 (some (.array (.object "java/lang/Object"))) ∈ lw_good := kt 426 (by decide +kernel) (by decide +kernel)
theorem kM_J7_86 : Cond.methodLink RJ7 86 ⟨"java/lang/Object", "getClass", "()Ljava/lang/Class;"⟩ ∈ lw_good := kt 427 (by decide +kernel) (by decide +kernel)
theorem kI_Object_getClass : Cond.instanceMethod ⟨"java/lang/Object", "getClass", "()Ljava/lang/Class;"⟩ ∈ lw_good := kt 428 (by decide +kernel) (by decide +kernel)
theorem kV2_X7_Object_getClass : Cond.selects RX7 ⟨"java/lang/Object", "getClass", "()Ljava/lang/Class;"⟩ ⟨"java/lang/Object", "getClass", "()Ljava/lang/Class;"⟩ ∈ lw_good := kt 430 (by decide +kernel) (by decide +kernel)
theorem kV2_X0_Object_getClass : Cond.selects RX0 ⟨"java/lang/Object", "getClass", "()Ljava/lang/Class;"⟩ ⟨"java/lang/Object", "getClass", "()Ljava/lang/Class;"⟩ ∈ lw_good := kt 431 (by decide +kernel) (by decide +kernel)
theorem kV2_X1_Object_getClass : Cond.selects RX1 ⟨"java/lang/Object", "getClass", "()Ljava/lang/Class;"⟩ ⟨"java/lang/Object", "getClass", "()Ljava/lang/Class;"⟩ ∈ lw_good := kt 432 (by decide +kernel) (by decide +kernel)
theorem kV2_X2_Object_getClass : Cond.selects RX2 ⟨"java/lang/Object", "getClass", "()Ljava/lang/Class;"⟩ ⟨"java/lang/Object", "getClass", "()Ljava/lang/Class;"⟩ ∈ lw_good := kt 433 (by decide +kernel) (by decide +kernel)
theorem kV2_X3_Object_getClass : Cond.selects RX3 ⟨"java/lang/Object", "getClass", "()Ljava/lang/Class;"⟩ ⟨"java/lang/Object", "getClass", "()Ljava/lang/Class;"⟩ ∈ lw_good := kt 434 (by decide +kernel) (by decide +kernel)
theorem kV2_X4_Object_getClass : Cond.selects RX4 ⟨"java/lang/Object", "getClass", "()Ljava/lang/Class;"⟩ ⟨"java/lang/Object", "getClass", "()Ljava/lang/Class;"⟩ ∈ lw_good := kt 435 (by decide +kernel) (by decide +kernel)
theorem kV2_X5_Object_getClass : Cond.selects RX5 ⟨"java/lang/Object", "getClass", "()Ljava/lang/Class;"⟩ ⟨"java/lang/Object", "getClass", "()Ljava/lang/Class;"⟩ ∈ lw_good := kt 436 (by decide +kernel) (by decide +kernel)
theorem kV2_X6_Object_getClass : Cond.selects RX6 ⟨"java/lang/Object", "getClass", "()Ljava/lang/Class;"⟩ ⟨"java/lang/Object", "getClass", "()Ljava/lang/Class;"⟩ ∈ lw_good := kt 437 (by decide +kernel) (by decide +kernel)
theorem kV2_X8_Object_getClass : Cond.selects RX8 ⟨"java/lang/Object", "getClass", "()Ljava/lang/Class;"⟩ ⟨"java/lang/Object", "getClass", "()Ljava/lang/Class;"⟩ ∈ lw_good := kt 438 (by decide +kernel) (by decide +kernel)
theorem kV2_Jx4a65c_Object_getClass : Cond.selects RJx4a65c ⟨"java/lang/Object", "getClass", "()Ljava/lang/Class;"⟩ ⟨"java/lang/Object", "getClass", "()Ljava/lang/Class;"⟩ ∈ lw_good := kt 439 (by decide +kernel) (by decide +kernel)
theorem kX_Object_getClass : Cond.native ⟨"java/lang/Object", "getClass", "()Ljava/lang/Class;"⟩ ∈ lw_good := kt 440 (by decide +kernel) (by decide +kernel)
theorem kM_J7_300 : Cond.methodLink RJ7 300 yJ7_copyOf_6403c ∈ lw_good := kt 441 (by decide +kernel) (by decide +kernel)
theorem kS_J7_copyOf_6403c : Cond.static yJ7_copyOf_6403c ∈ lw_good := kt 442 (by decide +kernel) (by decide +kernel)
theorem kC_J7_copyOf_6403c : Cond.code yJ7_copyOf_6403c cJ7_copyOf_6403c 4 (some (.array (.object "java/lang/Object"))) ∈ lw_good := kt 443 (by decide +kernel) (by decide +kernel)
theorem kL_J7_110 : Cond.classLink RJ7 110 "[Ljava/lang/Object;" ∈ lw_good := kt 444 (by decide +kernel) (by decide +kernel)
theorem kL_J7_2 : Cond.classLink RJ7 2 "java/lang/Object" ∈ lw_good := kt 446 (by decide +kernel) (by decide +kernel)
theorem kM_J7_304 : Cond.methodLink RJ7 304 yJ9_min_7cf53 ∈ lw_good := kt 447 (by decide +kernel) (by decide +kernel)
theorem kM_J7_150 : Cond.methodLink RJ7 150 ⟨"java/lang/System", "arraycopy", "(Ljava/lang/Object;ILjava/lang/Object;II)V"⟩ ∈ lw_good := kt 448 (by decide +kernel) (by decide +kernel)
theorem kM_Jx4a65c_79 : Cond.methodLink RJx4a65c 79 yJ9_max_7cf53 ∈ lw_good := kt 449 (by decide +kernel) (by decide +kernel)
theorem kL_Jx4a65c_7 : Cond.classLink RJx4a65c 7 "java/lang/Object" ∈ lw_good := kt 450 (by decide +kernel) (by decide +kernel)
theorem kM_L_32 : Cond.methodLink RL 32 yX7_road ∈ lw_good := kt 451 (by decide +kernel) (by decide +kernel)
theorem kI_X7_road : Cond.instanceMethod yX7_road ∈ lw_good := kt 452 (by decide +kernel) (by decide +kernel)
theorem kV_X7_road : Cond.selects RX7 yX7_road yX7_road ∈ lw_good := kt 453 (by decide +kernel) (by decide +kernel)
theorem kC_X7_road : Cond.code yX7_road cX7_road 5 (some .int) ∈ lw_good := kt 454 (by decide +kernel) (by decide +kernel)
theorem kM_X7_84 : Cond.methodLink RX7 84 yJx4a65c_size_8abf5 ∈ lw_good := kt 455 (by decide +kernel) (by decide +kernel)
theorem kM_X7_87 : Cond.methodLink RX7 87 yX2_townAt ∈ lw_good := kt 456 (by decide +kernel) (by decide +kernel)
theorem kI_X2_townAt : Cond.instanceMethod yX2_townAt ∈ lw_good := kt 457 (by decide +kernel) (by decide +kernel)
theorem kV_X2_townAt : Cond.selects RX2 yX2_townAt yX2_townAt ∈ lw_good := kt 458 (by decide +kernel) (by decide +kernel)
theorem kC_X2_townAt : Cond.code yX2_townAt cX2_townAt 2 (some (.object "EvenGranary$Town")) ∈ lw_good := kt 459 (by decide +kernel) (by decide +kernel)
theorem kM_X2_27 : Cond.methodLink RX2 27 yJx4a65c_get_915e3 ∈ lw_good := kt 460 (by decide +kernel) (by decide +kernel)
theorem kI_Jx4a65c_get_915e3 : Cond.instanceMethod yJx4a65c_get_915e3 ∈ lw_good := kt 461 (by decide +kernel) (by decide +kernel)
theorem kV_Jx4a65c_get_915e3 : Cond.selects RJx4a65c yJx4a65c_get_915e3 yJx4a65c_get_915e3 ∈ lw_good := kt 462 (by decide +kernel) (by decide +kernel)
theorem kC_Jx4a65c_get_915e3 : Cond.code yJx4a65c_get_915e3 cJx4a65c_get_915e3 2 (some (.object "java/lang/Object")) ∈ lw_good := kt 463 (by decide +kernel) (by decide +kernel)
theorem kM_Jx4a65c_118 : Cond.methodLink RJx4a65c 118 yJ15_checkIndex_7cf53 ∈ lw_good := kt 464 (by decide +kernel) (by decide +kernel)
theorem kS_J15_checkIndex_7cf53 : Cond.static yJ15_checkIndex_7cf53 ∈ lw_good := kt 465 (by decide +kernel) (by decide +kernel)
theorem kC_J15_checkIndex_7cf53 : Cond.code yJ15_checkIndex_7cf53 cJ15_checkIndex_7cf53 2 (some .int) ∈ lw_good := kt 466 (by decide +kernel) (by decide +kernel)
theorem kM_J15_105 : Cond.methodLink RJ15 105 yJ3_checkIndex_8e157 ∈ lw_good := kt 467 (by decide +kernel) (by decide +kernel)
theorem kS_J3_checkIndex_8e157 : Cond.static yJ3_checkIndex_8e157 ∈ lw_good := kt 468 (by decide +kernel) (by decide +kernel)
theorem kC_J3_checkIndex_8e157 : Cond.code yJ3_checkIndex_8e157 cJ3_checkIndex_8e157 3 (some .int) ∈ lw_good := kt 469 (by decide +kernel) (by decide +kernel)
theorem kM_Jx4a65c_123 : Cond.methodLink RJx4a65c 123 yJx4a65c_elementData_915e3 ∈ lw_good := kt 470 (by decide +kernel) (by decide +kernel)
theorem kI_Jx4a65c_elementData_915e3 : Cond.instanceMethod yJx4a65c_elementData_915e3 ∈ lw_good := kt 471 (by decide +kernel) (by decide +kernel)
theorem kV_Jx4a65c_elementData_915e3 : Cond.selects RJx4a65c yJx4a65c_elementData_915e3 yJx4a65c_elementData_915e3 ∈ lw_good := kt 472 (by decide +kernel) (by decide +kernel)
theorem kC_Jx4a65c_elementData_915e3 : Cond.code yJx4a65c_elementData_915e3 cJx4a65c_elementData_915e3 2 (some (.object "java/lang/Object")) ∈ lw_good := kt 473 (by decide +kernel) (by decide +kernel)
theorem kL_X2_31 : Cond.classLink RX2 31 RX6 ∈ lw_good := kt 474 (by decide +kernel) (by decide +kernel)
theorem kL_X7_91 : Cond.classLink RX7 91 RX3 ∈ lw_good := kt 475 (by decide +kernel) (by decide +kernel)
theorem kT_X3 : Cond.instantiable RX3 5 ∈ lw_good := kt 476 (by decide +kernel) (by decide +kernel)
theorem kM_X7_93 : Cond.methodLink RX7 93 yX3_init ∈ lw_good := kt 477 (by decide +kernel) (by decide +kernel)
theorem kI_X3_init : Cond.instanceMethod yX3_init ∈ lw_good := kt 478 (by decide +kernel) (by decide +kernel)
theorem kC_X3_init : Cond.code yX3_init cX3_init 5 none ∈ lw_good := kt 479 (by decide +kernel) (by decide +kernel)
theorem kM_X3_1 : Cond.methodLink RX3 1 objectInit ∈ lw_good := kt 480 (by decide +kernel) (by decide +kernel)
theorem kF_X3_7 : Cond.fieldLink RX3 7 "EvenGranary$Road" "a" "I" ∈ lw_good := kt 481 (by decide +kernel) (by decide +kernel)
theorem kF_X3_13 : Cond.fieldLink RX3 13 "EvenGranary$Road" "b" "I" ∈ lw_good := kt 482 (by decide +kernel) (by decide +kernel)
theorem kF_X3_16 : Cond.fieldLink RX3 16 "EvenGranary$Road" "way" "I" ∈ lw_good := kt 483 (by decide +kernel) (by decide +kernel)
theorem kF_X2_65 : Cond.fieldLink RX2 65 "EvenGranary$Road" "way" "I" ∈ lw_good := kt 484 (by decide +kernel) (by decide +kernel)
theorem kF_X3_19 : Cond.fieldLink RX3 19 "EvenGranary$Road" "carts" "I" ∈ lw_good := kt 485 (by decide +kernel) (by decide +kernel)
theorem kF_X7_233 : Cond.fieldLink RX7 233 "EvenGranary$Road" "carts" "I" ∈ lw_good := kt 486 (by decide +kernel) (by decide +kernel)
theorem kF_X7_121 : Cond.fieldLink RX7 121 "EvenGranary$Road" "taken" "I" ∈ lw_good := kt 487 (by decide +kernel) (by decide +kernel)
theorem kM_X7_96 : Cond.methodLink RX7 96 yJx4a65c_add_9ea2d ∈ lw_good := kt 499 (by decide +kernel) (by decide +kernel)
theorem kM_L_39 : Cond.methodLink RL 39 yX7_coin ∈ lw_good := kt 500 (by decide +kernel) (by decide +kernel)
theorem kI_X7_coin : Cond.instanceMethod yX7_coin ∈ lw_good := kt 501 (by decide +kernel) (by decide +kernel)
theorem kV_X7_coin : Cond.selects RX7 yX7_coin yX7_coin ∈ lw_good := kt 502 (by decide +kernel) (by decide +kernel)
theorem kC_X7_coin : Cond.code yX7_coin cX7_coin 3 (some .boolean) ∈ lw_good := kt 503 (by decide +kernel) (by decide +kernel)
theorem kK_X7_100 : Cond.constantLong RX7 100 (1000000000) ∈ lw_good := kt 504 (by decide +kernel) (by decide +kernel)
theorem kM_L_44 : Cond.methodLink RL 44 yX7_harvest ∈ lw_good := kt 505 (by decide +kernel) (by decide +kernel)
theorem kI_X7_harvest : Cond.instanceMethod yX7_harvest ∈ lw_good := kt 506 (by decide +kernel) (by decide +kernel)
theorem kV_X7_harvest : Cond.selects RX7 yX7_harvest yX7_harvest ∈ lw_good := kt 507 (by decide +kernel) (by decide +kernel)
theorem kC_X7_harvest : Cond.code yX7_harvest cX7_harvest 4 (some .boolean) ∈ lw_good := kt 508 (by decide +kernel) (by decide +kernel)
theorem kM_L_49 : Cond.methodLink RL 49 yX7_step ∈ lw_good := kt 509 (by decide +kernel) (by decide +kernel)
theorem kI_X7_step : Cond.instanceMethod yX7_step ∈ lw_good := kt 510 (by decide +kernel) (by decide +kernel)
theorem kV_X7_step : Cond.selects RX7 yX7_step yX7_step ∈ lw_good := kt 511 (by decide +kernel) (by decide +kernel)
theorem kC_X7_step : Cond.code yX7_step cX7_step 3 (some .int) ∈ lw_good := kt 512 (by decide +kernel) (by decide +kernel)
theorem kM_X7_113 : Cond.methodLink RX7 113 yX2_passMonths ∈ lw_good := kt 513 (by decide +kernel) (by decide +kernel)
theorem kI_X2_passMonths : Cond.instanceMethod yX2_passMonths ∈ lw_good := kt 514 (by decide +kernel) (by decide +kernel)
theorem kV_X2_passMonths : Cond.selects RX2 yX2_passMonths yX2_passMonths ∈ lw_good := kt 515 (by decide +kernel) (by decide +kernel)
theorem kC_X2_passMonths : Cond.code yX2_passMonths cX2_passMonths 7 (some .long) ∈ lw_good := kt 516 (by decide +kernel) (by decide +kernel)
theorem kM_X2_79 : Cond.methodLink RX2 79 yX2_unload ∈ lw_good := kt 517 (by decide +kernel) (by decide +kernel)
theorem kI_X2_unload : Cond.instanceMethod yX2_unload ∈ lw_good := kt 519 (by decide +kernel) (by decide +kernel)
theorem kC_X2_unload : Cond.code yX2_unload cX2_unload 3 none ∈ lw_good := kt 520 (by decide +kernel) (by decide +kernel)
theorem kM_X2_108 : Cond.methodLink RX2 108 yX0_size ∈ lw_good := kt 521 (by decide +kernel) (by decide +kernel)
theorem kI_X0_size : Cond.instanceMethod yX0_size ∈ lw_good := kt 522 (by decide +kernel) (by decide +kernel)
theorem kV_X0_size : Cond.selects RX0 yX0_size yX0_size ∈ lw_good := kt 523 (by decide +kernel) (by decide +kernel)
theorem kC_X0_size : Cond.code yX0_size cX0_size 1 (some .int) ∈ lw_good := kt 524 (by decide +kernel) (by decide +kernel)
theorem kM_X2_109 : Cond.methodLink RX2 109 yX0_targetOf ∈ lw_good := kt 525 (by decide +kernel) (by decide +kernel)
theorem kI_X0_targetOf : Cond.instanceMethod yX0_targetOf ∈ lw_good := kt 526 (by decide +kernel) (by decide +kernel)
theorem kV_X0_targetOf : Cond.selects RX0 yX0_targetOf yX0_targetOf ∈ lw_good := kt 527 (by decide +kernel) (by decide +kernel)
theorem kC_X0_targetOf : Cond.code yX0_targetOf cX0_targetOf 2 (some .int) ∈ lw_good := kt 528 (by decide +kernel) (by decide +kernel)
theorem kM_X0_29 : Cond.methodLink RX0 29 yX0_isThere ∈ lw_good := kt 529 (by decide +kernel) (by decide +kernel)
theorem kI_X0_isThere : Cond.instanceMethod yX0_isThere ∈ lw_good := kt 531 (by decide +kernel) (by decide +kernel)
theorem kC_X0_isThere : Cond.code yX0_isThere cX0_isThere 2 (some .boolean) ∈ lw_good := kt 532 (by decide +kernel) (by decide +kernel)
theorem kM_X2_41 : Cond.methodLink RX2 41 yX2_townAt ∈ lw_good := kt 533 (by decide +kernel) (by decide +kernel)
theorem kM_X2_112 : Cond.methodLink RX2 112 yX0_arrives ∈ lw_good := kt 534 (by decide +kernel) (by decide +kernel)
theorem kI_X0_arrives : Cond.instanceMethod yX0_arrives ∈ lw_good := kt 535 (by decide +kernel) (by decide +kernel)
theorem kV_X0_arrives : Cond.selects RX0 yX0_arrives yX0_arrives ∈ lw_good := kt 536 (by decide +kernel) (by decide +kernel)
theorem kC_X0_arrives : Cond.code yX0_arrives cX0_arrives 3 (some .boolean) ∈ lw_good := kt 537 (by decide +kernel) (by decide +kernel)
theorem kM_X2_116 : Cond.methodLink RX2 116 yX0_loadOf ∈ lw_good := kt 538 (by decide +kernel) (by decide +kernel)
theorem kI_X0_loadOf : Cond.instanceMethod yX0_loadOf ∈ lw_good := kt 539 (by decide +kernel) (by decide +kernel)
theorem kV_X0_loadOf : Cond.selects RX0 yX0_loadOf yX0_loadOf ∈ lw_good := kt 540 (by decide +kernel) (by decide +kernel)
theorem kC_X0_loadOf : Cond.code yX0_loadOf cX0_loadOf 2 (some .int) ∈ lw_good := kt 541 (by decide +kernel) (by decide +kernel)
theorem kM_X2_119 : Cond.methodLink RX2 119 yX6_receive ∈ lw_good := kt 542 (by decide +kernel) (by decide +kernel)
theorem kI_X6_receive : Cond.instanceMethod yX6_receive ∈ lw_good := kt 543 (by decide +kernel) (by decide +kernel)
theorem kV_X6_receive : Cond.selects RX6 yX6_receive yX6_receive ∈ lw_good := kt 544 (by decide +kernel) (by decide +kernel)
theorem kC_X6_receive : Cond.code yX6_receive cX6_receive 4 none ∈ lw_good := kt 545 (by decide +kernel) (by decide +kernel)
theorem kM_X6_28 : Cond.methodLink RX6 28 yX4_space ∈ lw_good := kt 546 (by decide +kernel) (by decide +kernel)
theorem kI_X4_space : Cond.instanceMethod yX4_space ∈ lw_good := kt 547 (by decide +kernel) (by decide +kernel)
theorem kV_X4_space : Cond.selects RX4 yX4_space yX4_space ∈ lw_good := kt 548 (by decide +kernel) (by decide +kernel)
theorem kC_X4_space : Cond.code yX4_space cX4_space 1 (some .int) ∈ lw_good := kt 549 (by decide +kernel) (by decide +kernel)
theorem kM_X6_32 : Cond.methodLink RX6 32 yJ9_min_7cf53 ∈ lw_good := kt 550 (by decide +kernel) (by decide +kernel)
theorem kM_X6_38 : Cond.methodLink RX6 38 yX4_put ∈ lw_good := kt 551 (by decide +kernel) (by decide +kernel)
theorem kI_X4_put : Cond.instanceMethod yX4_put ∈ lw_good := kt 552 (by decide +kernel) (by decide +kernel)
theorem kV_X4_put : Cond.selects RX4 yX4_put yX4_put ∈ lw_good := kt 553 (by decide +kernel) (by decide +kernel)
theorem kC_X4_put : Cond.code yX4_put cX4_put 4 none ∈ lw_good := kt 554 (by decide +kernel) (by decide +kernel)
theorem kM_X2_123 : Cond.methodLink RX2 123 yX0_removeArrived ∈ lw_good := kt 555 (by decide +kernel) (by decide +kernel)
theorem kI_X0_removeArrived : Cond.instanceMethod yX0_removeArrived ∈ lw_good := kt 556 (by decide +kernel) (by decide +kernel)
theorem kV_X0_removeArrived : Cond.selects RX0 yX0_removeArrived yX0_removeArrived ∈ lw_good := kt 557 (by decide +kernel) (by decide +kernel)
theorem kC_X0_removeArrived : Cond.code yX0_removeArrived cX0_removeArrived 4 none ∈ lw_good := kt 558 (by decide +kernel) (by decide +kernel)
theorem kM_X2_82 : Cond.methodLink RX2 82 yX2_reapAndPayBack ∈ lw_good := kt 559 (by decide +kernel) (by decide +kernel)
theorem kI_X2_reapAndPayBack : Cond.instanceMethod yX2_reapAndPayBack ∈ lw_good := kt 561 (by decide +kernel) (by decide +kernel)
theorem kC_X2_reapAndPayBack : Cond.code yX2_reapAndPayBack cX2_reapAndPayBack 3 none ∈ lw_good := kt 562 (by decide +kernel) (by decide +kernel)
theorem kM_X2_126 : Cond.methodLink RX2 126 yX6_reap ∈ lw_good := kt 563 (by decide +kernel) (by decide +kernel)
theorem kI_X6_reap : Cond.instanceMethod yX6_reap ∈ lw_good := kt 564 (by decide +kernel) (by decide +kernel)
theorem kV_X6_reap : Cond.selects RX6 yX6_reap yX6_reap ∈ lw_good := kt 565 (by decide +kernel) (by decide +kernel)
theorem kC_X6_reap : Cond.code yX6_reap cX6_reap 1 none ∈ lw_good := kt 566 (by decide +kernel) (by decide +kernel)
theorem kM_X2_129 : Cond.methodLink RX2 129 yX6_payBack ∈ lw_good := kt 567 (by decide +kernel) (by decide +kernel)
theorem kI_X6_payBack : Cond.instanceMethod yX6_payBack ∈ lw_good := kt 568 (by decide +kernel) (by decide +kernel)
theorem kV_X6_payBack : Cond.selects RX6 yX6_payBack yX6_payBack ∈ lw_good := kt 569 (by decide +kernel) (by decide +kernel)
theorem kC_X6_payBack : Cond.code yX6_payBack cX6_payBack 3 none ∈ lw_good := kt 570 (by decide +kernel) (by decide +kernel)
theorem kM_X6_48 : Cond.methodLink RX6 48 yJ9_min_f86c9 ∈ lw_good := kt 571 (by decide +kernel) (by decide +kernel)
theorem kS_J9_min_f86c9 : Cond.static yJ9_min_f86c9 ∈ lw_good := kt 572 (by decide +kernel) (by decide +kernel)
theorem kC_J9_min_f86c9 : Cond.code yJ9_min_f86c9 cJ9_min_f86c9 4 (some .long) ∈ lw_good := kt 573 (by decide +kernel) (by decide +kernel)
theorem kM_X2_85 : Cond.methodLink RX2 85 yX2_trade ∈ lw_good := kt 574 (by decide +kernel) (by decide +kernel)
theorem kI_X2_trade : Cond.instanceMethod yX2_trade ∈ lw_good := kt 576 (by decide +kernel) (by decide +kernel)
theorem kC_X2_trade : Cond.code yX2_trade cX2_trade 6 none ∈ lw_good := kt 577 (by decide +kernel) (by decide +kernel)
theorem kM_X2_132 : Cond.methodLink RX2 132 yX6_price ∈ lw_good := kt 578 (by decide +kernel) (by decide +kernel)
theorem kI_X6_price : Cond.instanceMethod yX6_price ∈ lw_good := kt 579 (by decide +kernel) (by decide +kernel)
theorem kV_X6_price : Cond.selects RX6 yX6_price yX6_price ∈ lw_good := kt 580 (by decide +kernel) (by decide +kernel)
theorem kC_X6_price : Cond.code yX6_price cX6_price 3 (some .int) ∈ lw_good := kt 581 (by decide +kernel) (by decide +kernel)
theorem kK_X6_26 : Cond.constantLong RX6 26 (1000) ∈ lw_good := kt 582 (by decide +kernel) (by decide +kernel)
theorem kM_X2_137 : Cond.methodLink RX2 137 yX1_number ∈ lw_good := kt 583 (by decide +kernel) (by decide +kernel)
theorem kM_X2_140 : Cond.methodLink RX2 140 yX4_space ∈ lw_good := kt 584 (by decide +kernel) (by decide +kernel)
theorem kM_X2_146 : Cond.methodLink RX2 146 yJ9_min_f86c9 ∈ lw_good := kt 585 (by decide +kernel) (by decide +kernel)
theorem kM_X2_152 : Cond.methodLink RX2 152 yX6_buy ∈ lw_good := kt 586 (by decide +kernel) (by decide +kernel)
theorem kI_X6_buy : Cond.instanceMethod yX6_buy ∈ lw_good := kt 587 (by decide +kernel) (by decide +kernel)
theorem kV_X6_buy : Cond.selects RX6 yX6_buy yX6_buy ∈ lw_good := kt 588 (by decide +kernel) (by decide +kernel)
theorem kC_X6_buy : Cond.code yX6_buy cX6_buy 3 none ∈ lw_good := kt 589 (by decide +kernel) (by decide +kernel)
theorem kM_X2_155 : Cond.methodLink RX2 155 yX4_held ∈ lw_good := kt 590 (by decide +kernel) (by decide +kernel)
theorem kI_X4_held : Cond.instanceMethod yX4_held ∈ lw_good := kt 591 (by decide +kernel) (by decide +kernel)
theorem kV_X4_held : Cond.selects RX4 yX4_held yX4_held ∈ lw_good := kt 592 (by decide +kernel) (by decide +kernel)
theorem kC_X4_held : Cond.code yX4_held cX4_held 1 (some .int) ∈ lw_good := kt 593 (by decide +kernel) (by decide +kernel)
theorem kM_X2_158 : Cond.methodLink RX2 158 yJ9_min_7cf53 ∈ lw_good := kt 594 (by decide +kernel) (by decide +kernel)
theorem kM_X2_161 : Cond.methodLink RX2 161 yX6_sell ∈ lw_good := kt 595 (by decide +kernel) (by decide +kernel)
theorem kI_X6_sell : Cond.instanceMethod yX6_sell ∈ lw_good := kt 596 (by decide +kernel) (by decide +kernel)
theorem kV_X6_sell : Cond.selects RX6 yX6_sell yX6_sell ∈ lw_good := kt 597 (by decide +kernel) (by decide +kernel)
theorem kC_X6_sell : Cond.code yX6_sell cX6_sell 2 none ∈ lw_good := kt 598 (by decide +kernel) (by decide +kernel)
theorem kM_X6_54 : Cond.methodLink RX6 54 yX4_take ∈ lw_good := kt 599 (by decide +kernel) (by decide +kernel)
theorem kI_X4_take : Cond.instanceMethod yX4_take ∈ lw_good := kt 600 (by decide +kernel) (by decide +kernel)
theorem kV_X4_take : Cond.selects RX4 yX4_take yX4_take ∈ lw_good := kt 601 (by decide +kernel) (by decide +kernel)
theorem kC_X4_take : Cond.code yX4_take cX4_take 6 none ∈ lw_good := kt 602 (by decide +kernel) (by decide +kernel)
theorem kM_X4_42 : Cond.methodLink RX4 42 yJ9_min_7cf53 ∈ lw_good := kt 603 (by decide +kernel) (by decide +kernel)
theorem kM_X4_48 : Cond.methodLink RX4 48 yX4_lessen ∈ lw_good := kt 604 (by decide +kernel) (by decide +kernel)
theorem kI_X4_lessen : Cond.instanceMethod yX4_lessen ∈ lw_good := kt 606 (by decide +kernel) (by decide +kernel)
theorem kC_X4_lessen : Cond.code yX4_lessen cX4_lessen 3 none ∈ lw_good := kt 607 (by decide +kernel) (by decide +kernel)
theorem kM_X4_38 : Cond.methodLink RX4 38 yX4_hasLot ∈ lw_good := kt 608 (by decide +kernel) (by decide +kernel)
theorem kI_X4_hasLot : Cond.instanceMethod yX4_hasLot ∈ lw_good := kt 609 (by decide +kernel) (by decide +kernel)
theorem kV_X4_hasLot : Cond.selects RX4 yX4_hasLot yX4_hasLot ∈ lw_good := kt 610 (by decide +kernel) (by decide +kernel)
theorem kC_X4_hasLot : Cond.code yX4_hasLot cX4_hasLot 2 (some .boolean) ∈ lw_good := kt 611 (by decide +kernel) (by decide +kernel)
theorem kM_X4_52 : Cond.methodLink RX4 52 yX4_cut ∈ lw_good := kt 612 (by decide +kernel) (by decide +kernel)
theorem kI_X4_cut : Cond.instanceMethod yX4_cut ∈ lw_good := kt 614 (by decide +kernel) (by decide +kernel)
theorem kC_X4_cut : Cond.code yX4_cut cX4_cut 4 none ∈ lw_good := kt 615 (by decide +kernel) (by decide +kernel)
theorem kM_X4_55 : Cond.methodLink RX4 55 ⟨"java/lang/System", "arraycopy", "(Ljava/lang/Object;ILjava/lang/Object;II)V"⟩ ∈ lw_good := kt 616 (by decide +kernel) (by decide +kernel)
theorem kM_X2_89 : Cond.methodLink RX2 89 yX6_eat ∈ lw_good := kt 617 (by decide +kernel) (by decide +kernel)
theorem kI_X6_eat : Cond.instanceMethod yX6_eat ∈ lw_good := kt 618 (by decide +kernel) (by decide +kernel)
theorem kV_X6_eat : Cond.selects RX6 yX6_eat yX6_eat ∈ lw_good := kt 619 (by decide +kernel) (by decide +kernel)
theorem kC_X6_eat : Cond.code yX6_eat cX6_eat 5 (some .long) ∈ lw_good := kt 620 (by decide +kernel) (by decide +kernel)
theorem kM_X2_92 : Cond.methodLink RX2 92 yX2_ageStores ∈ lw_good := kt 621 (by decide +kernel) (by decide +kernel)
theorem kI_X2_ageStores : Cond.instanceMethod yX2_ageStores ∈ lw_good := kt 623 (by decide +kernel) (by decide +kernel)
theorem kC_X2_ageStores : Cond.code yX2_ageStores cX2_ageStores 6 none ∈ lw_good := kt 624 (by decide +kernel) (by decide +kernel)
theorem kM_X2_164 : Cond.methodLink RX2 164 yX6_spoilLots ∈ lw_good := kt 625 (by decide +kernel) (by decide +kernel)
theorem kI_X6_spoilLots : Cond.instanceMethod yX6_spoilLots ∈ lw_good := kt 626 (by decide +kernel) (by decide +kernel)
theorem kV_X6_spoilLots : Cond.selects RX6 yX6_spoilLots yX6_spoilLots ∈ lw_good := kt 627 (by decide +kernel) (by decide +kernel)
theorem kC_X6_spoilLots : Cond.code yX6_spoilLots cX6_spoilLots 3 none ∈ lw_good := kt 628 (by decide +kernel) (by decide +kernel)
theorem kM_X6_70 : Cond.methodLink RX6 70 yX4_spoil ∈ lw_good := kt 629 (by decide +kernel) (by decide +kernel)
theorem kI_X4_spoil : Cond.instanceMethod yX4_spoil ∈ lw_good := kt 630 (by decide +kernel) (by decide +kernel)
theorem kV_X4_spoil : Cond.selects RX4 yX4_spoil yX4_spoil ∈ lw_good := kt 631 (by decide +kernel) (by decide +kernel)
theorem kC_X4_spoil : Cond.code yX4_spoil cX4_spoil 8 (some .long) ∈ lw_good := kt 632 (by decide +kernel) (by decide +kernel)
theorem kM_X2_167 : Cond.methodLink RX2 167 yX6_turnOver ∈ lw_good := kt 633 (by decide +kernel) (by decide +kernel)
theorem kI_X6_turnOver : Cond.instanceMethod yX6_turnOver ∈ lw_good := kt 634 (by decide +kernel) (by decide +kernel)
theorem kV_X6_turnOver : Cond.selects RX6 yX6_turnOver yX6_turnOver ∈ lw_good := kt 635 (by decide +kernel) (by decide +kernel)
theorem kC_X6_turnOver : Cond.code yX6_turnOver cX6_turnOver 5 none ∈ lw_good := kt 636 (by decide +kernel) (by decide +kernel)
theorem kM_X6_74 : Cond.methodLink RX6 74 yX4_held ∈ lw_good := kt 637 (by decide +kernel) (by decide +kernel)
theorem kM_X7_117 : Cond.methodLink RX7 117 yJx4a65c_get_915e3 ∈ lw_good := kt 638 (by decide +kernel) (by decide +kernel)
theorem kM_L_53 : Cond.methodLink RL 53 yX7_move ∈ lw_good := kt 639 (by decide +kernel) (by decide +kernel)
theorem kI_X7_move : Cond.instanceMethod yX7_move ∈ lw_good := kt 640 (by decide +kernel) (by decide +kernel)
theorem kV_X7_move : Cond.selects RX7 yX7_move yX7_move ∈ lw_good := kt 641 (by decide +kernel) (by decide +kernel)
theorem kC_X7_move : Cond.code yX7_move cX7_move 5 (some .boolean) ∈ lw_good := kt 642 (by decide +kernel) (by decide +kernel)
theorem kM_X7_124 : Cond.methodLink RX7 124 yX7_roadAt ∈ lw_good := kt 643 (by decide +kernel) (by decide +kernel)
theorem kI_X7_roadAt : Cond.instanceMethod yX7_roadAt ∈ lw_good := kt 645 (by decide +kernel) (by decide +kernel)
theorem kC_X7_roadAt : Cond.code yX7_roadAt cX7_roadAt 2 (some (.object "EvenGranary$Road")) ∈ lw_good := kt 646 (by decide +kernel) (by decide +kernel)
theorem kM_X7_128 : Cond.methodLink RX7 128 yX7_movable ∈ lw_good := kt 647 (by decide +kernel) (by decide +kernel)
theorem kI_X7_movable : Cond.instanceMethod yX7_movable ∈ lw_good := kt 649 (by decide +kernel) (by decide +kernel)
theorem kC_X7_movable : Cond.code yX7_movable cX7_movable 4 (some .int) ∈ lw_good := kt 650 (by decide +kernel) (by decide +kernel)
theorem kM_X7_226 : Cond.methodLink RX7 226 yX3_touches ∈ lw_good := kt 651 (by decide +kernel) (by decide +kernel)
theorem kI_X3_touches : Cond.instanceMethod yX3_touches ∈ lw_good := kt 652 (by decide +kernel) (by decide +kernel)
theorem kV_X3_touches : Cond.selects RX3 yX3_touches yX3_touches ∈ lw_good := kt 653 (by decide +kernel) (by decide +kernel)
theorem kC_X3_touches : Cond.code yX3_touches cX3_touches 2 (some .boolean) ∈ lw_good := kt 654 (by decide +kernel) (by decide +kernel)
theorem kM_X7_229 : Cond.methodLink RX7 229 yX2_canSend ∈ lw_good := kt 655 (by decide +kernel) (by decide +kernel)
theorem kI_X2_canSend : Cond.instanceMethod yX2_canSend ∈ lw_good := kt 656 (by decide +kernel) (by decide +kernel)
theorem kV_X2_canSend : Cond.selects RX2 yX2_canSend yX2_canSend ∈ lw_good := kt 657 (by decide +kernel) (by decide +kernel)
theorem kC_X2_canSend : Cond.code yX2_canSend cX2_canSend 1 (some .boolean) ∈ lw_good := kt 658 (by decide +kernel) (by decide +kernel)
theorem kM_X2_37 : Cond.methodLink RX2 37 yX0_isFull ∈ lw_good := kt 659 (by decide +kernel) (by decide +kernel)
theorem kI_X0_isFull : Cond.instanceMethod yX0_isFull ∈ lw_good := kt 660 (by decide +kernel) (by decide +kernel)
theorem kV_X0_isFull : Cond.selects RX0 yX0_isFull yX0_isFull ∈ lw_good := kt 661 (by decide +kernel) (by decide +kernel)
theorem kC_X0_isFull : Cond.code yX0_isFull cX0_isFull 1 (some .boolean) ∈ lw_good := kt 662 (by decide +kernel) (by decide +kernel)
theorem kM_X7_140 : Cond.methodLink RX7 140 yX4_held ∈ lw_good := kt 663 (by decide +kernel) (by decide +kernel)
theorem kM_X7_236 : Cond.methodLink RX7 236 yJ9_min_7cf53 ∈ lw_good := kt 664 (by decide +kernel) (by decide +kernel)
theorem kM_X7_132 : Cond.methodLink RX7 132 yX2_send ∈ lw_good := kt 665 (by decide +kernel) (by decide +kernel)
theorem kI_X2_send : Cond.instanceMethod yX2_send ∈ lw_good := kt 666 (by decide +kernel) (by decide +kernel)
theorem kV_X2_send : Cond.selects RX2 yX2_send yX2_send ∈ lw_good := kt 667 (by decide +kernel) (by decide +kernel)
theorem kC_X2_send : Cond.code yX2_send cX2_send 5 none ∈ lw_good := kt 668 (by decide +kernel) (by decide +kernel)
theorem kM_X2_49 : Cond.methodLink RX2 49 yX4_take ∈ lw_good := kt 669 (by decide +kernel) (by decide +kernel)
theorem kM_X2_55 : Cond.methodLink RX2 55 yX3_otherEnd ∈ lw_good := kt 670 (by decide +kernel) (by decide +kernel)
theorem kI_X3_otherEnd : Cond.instanceMethod yX3_otherEnd ∈ lw_good := kt 671 (by decide +kernel) (by decide +kernel)
theorem kV_X3_otherEnd : Cond.selects RX3 yX3_otherEnd yX3_otherEnd ∈ lw_good := kt 672 (by decide +kernel) (by decide +kernel)
theorem kC_X3_otherEnd : Cond.code yX3_otherEnd cX3_otherEnd 2 (some .int) ∈ lw_good := kt 673 (by decide +kernel) (by decide +kernel)
theorem kM_X2_68 : Cond.methodLink RX2 68 yX0_add ∈ lw_good := kt 674 (by decide +kernel) (by decide +kernel)
theorem kI_X0_add : Cond.instanceMethod yX0_add ∈ lw_good := kt 675 (by decide +kernel) (by decide +kernel)
theorem kV_X0_add : Cond.selects RX0 yX0_add yX0_add ∈ lw_good := kt 676 (by decide +kernel) (by decide +kernel)
theorem kC_X0_add : Cond.code yX0_add cX0_add 4 none ∈ lw_good := kt 677 (by decide +kernel) (by decide +kernel)
theorem kM_X0_25 : Cond.methodLink RX0 25 yX0_isFull ∈ lw_good := kt 678 (by decide +kernel) (by decide +kernel)
theorem kM_L_58 : Cond.methodLink RL 58 yX7_loan ∈ lw_good := kt 679 (by decide +kernel) (by decide +kernel)
theorem kI_X7_loan : Cond.instanceMethod yX7_loan ∈ lw_good := kt 680 (by decide +kernel) (by decide +kernel)
theorem kV_X7_loan : Cond.selects RX7 yX7_loan yX7_loan ∈ lw_good := kt 681 (by decide +kernel) (by decide +kernel)
theorem kC_X7_loan : Cond.code yX7_loan cX7_loan 4 (some .long) ∈ lw_good := kt 682 (by decide +kernel) (by decide +kernel)
theorem kK_X7_145 : Cond.constantLong RX7 145 (-1) ∈ lw_good := kt 683 (by decide +kernel) (by decide +kernel)
theorem kM_X7_147 : Cond.methodLink RX7 147 yX6_lend ∈ lw_good := kt 684 (by decide +kernel) (by decide +kernel)
theorem kI_X6_lend : Cond.instanceMethod yX6_lend ∈ lw_good := kt 685 (by decide +kernel) (by decide +kernel)
theorem kV_X6_lend : Cond.selects RX6 yX6_lend yX6_lend ∈ lw_good := kt 686 (by decide +kernel) (by decide +kernel)
theorem kC_X6_lend : Cond.code yX6_lend cX6_lend 3 none ∈ lw_good := kt 687 (by decide +kernel) (by decide +kernel)
theorem kK_X6_60 : Cond.constantLong RX6 60 (99) ∈ lw_good := kt 688 (by decide +kernel) (by decide +kernel)
theorem kK_X6_62 : Cond.constantLong RX6 62 (100) ∈ lw_good := kt 689 (by decide +kernel) (by decide +kernel)
theorem kM_L_63 : Cond.methodLink RL 63 yX7_steal ∈ lw_good := kt 690 (by decide +kernel) (by decide +kernel)
theorem kI_X7_steal : Cond.instanceMethod yX7_steal ∈ lw_good := kt 691 (by decide +kernel) (by decide +kernel)
theorem kV_X7_steal : Cond.selects RX7 yX7_steal yX7_steal ∈ lw_good := kt 692 (by decide +kernel) (by decide +kernel)
theorem kC_X7_steal : Cond.code yX7_steal cX7_steal 4 (some .boolean) ∈ lw_good := kt 693 (by decide +kernel) (by decide +kernel)
theorem kM_X7_154 : Cond.methodLink RX7 154 yX4_pilfer ∈ lw_good := kt 694 (by decide +kernel) (by decide +kernel)
theorem kI_X4_pilfer : Cond.instanceMethod yX4_pilfer ∈ lw_good := kt 695 (by decide +kernel) (by decide +kernel)
theorem kV_X4_pilfer : Cond.selects RX4 yX4_pilfer yX4_pilfer ∈ lw_good := kt 696 (by decide +kernel) (by decide +kernel)
theorem kC_X4_pilfer : Cond.code yX4_pilfer cX4_pilfer 5 none ∈ lw_good := kt 697 (by decide +kernel) (by decide +kernel)
theorem kM_L_67 : Cond.methodLink RL 67 yX7_measure ∈ lw_good := kt 698 (by decide +kernel) (by decide +kernel)
theorem kI_X7_measure : Cond.instanceMethod yX7_measure ∈ lw_good := kt 699 (by decide +kernel) (by decide +kernel)
theorem kV_X7_measure : Cond.selects RX7 yX7_measure yX7_measure ∈ lw_good := kt 700 (by decide +kernel) (by decide +kernel)
theorem kC_X7_measure : Cond.code yX7_measure cX7_measure 4 (some .int) ∈ lw_good := kt 701 (by decide +kernel) (by decide +kernel)
theorem kM_X7_160 : Cond.methodLink RX7 160 yX4_hasLot ∈ lw_good := kt 702 (by decide +kernel) (by decide +kernel)
theorem kM_X7_163 : Cond.methodLink RX7 163 yX4_audit ∈ lw_good := kt 703 (by decide +kernel) (by decide +kernel)
theorem kI_X4_audit : Cond.instanceMethod yX4_audit ∈ lw_good := kt 704 (by decide +kernel) (by decide +kernel)
theorem kV_X4_audit : Cond.selects RX4 yX4_audit yX4_audit ∈ lw_good := kt 705 (by decide +kernel) (by decide +kernel)
theorem kC_X4_audit : Cond.code yX4_audit cX4_audit 3 (some .int) ∈ lw_good := kt 706 (by decide +kernel) (by decide +kernel)
theorem kM_L_72 : Cond.methodLink RL 72 yX7_missing ∈ lw_good := kt 707 (by decide +kernel) (by decide +kernel)
theorem kI_X7_missing : Cond.instanceMethod yX7_missing ∈ lw_good := kt 708 (by decide +kernel) (by decide +kernel)
theorem kV_X7_missing : Cond.selects RX7 yX7_missing yX7_missing ∈ lw_good := kt 709 (by decide +kernel) (by decide +kernel)
theorem kC_X7_missing : Cond.code yX7_missing cX7_missing 6 (some .long) ∈ lw_good := kt 710 (by decide +kernel) (by decide +kernel)
theorem kM_X7_166 : Cond.methodLink RX7 166 yX4_foundEver ∈ lw_good := kt 711 (by decide +kernel) (by decide +kernel)
theorem kI_X4_foundEver : Cond.instanceMethod yX4_foundEver ∈ lw_good := kt 712 (by decide +kernel) (by decide +kernel)
theorem kV_X4_foundEver : Cond.selects RX4 yX4_foundEver yX4_foundEver ∈ lw_good := kt 713 (by decide +kernel) (by decide +kernel)
theorem kC_X4_foundEver : Cond.code yX4_foundEver cX4_foundEver 1 (some .long) ∈ lw_good := kt 714 (by decide +kernel) (by decide +kernel)
theorem kM_X7_170 : Cond.methodLink RX7 170 yX4_unmeasuredBook ∈ lw_good := kt 715 (by decide +kernel) (by decide +kernel)
theorem kI_X4_unmeasuredBook : Cond.instanceMethod yX4_unmeasuredBook ∈ lw_good := kt 716 (by decide +kernel) (by decide +kernel)
theorem kV_X4_unmeasuredBook : Cond.selects RX4 yX4_unmeasuredBook yX4_unmeasuredBook ∈ lw_good := kt 717 (by decide +kernel) (by decide +kernel)
theorem kC_X4_unmeasuredBook : Cond.code yX4_unmeasuredBook cX4_unmeasuredBook 4 (some .long) ∈ lw_good := kt 718 (by decide +kernel) (by decide +kernel)
theorem kM_L_76 : Cond.methodLink RL 76 yX7_foretold ∈ lw_good := kt 719 (by decide +kernel) (by decide +kernel)
theorem kI_X7_foretold : Cond.instanceMethod yX7_foretold ∈ lw_good := kt 720 (by decide +kernel) (by decide +kernel)
theorem kV_X7_foretold : Cond.selects RX7 yX7_foretold yX7_foretold ∈ lw_good := kt 721 (by decide +kernel) (by decide +kernel)
theorem kC_X7_foretold : Cond.code yX7_foretold cX7_foretold 2 (some .long) ∈ lw_good := kt 722 (by decide +kernel) (by decide +kernel)
theorem kM_X7_173 : Cond.methodLink RX7 173 yX2_imitate ∈ lw_good := kt 723 (by decide +kernel) (by decide +kernel)
theorem kI_X2_imitate : Cond.instanceMethod yX2_imitate ∈ lw_good := kt 724 (by decide +kernel) (by decide +kernel)
theorem kV_X2_imitate : Cond.selects RX2 yX2_imitate yX2_imitate ∈ lw_good := kt 725 (by decide +kernel) (by decide +kernel)
theorem kC_X2_imitate : Cond.code yX2_imitate cX2_imitate 3 none ∈ lw_good := kt 726 (by decide +kernel) (by decide +kernel)
theorem kM_X2_99 : Cond.methodLink RX2 99 yX0_imitate ∈ lw_good := kt 727 (by decide +kernel) (by decide +kernel)
theorem kI_X0_imitate : Cond.instanceMethod yX0_imitate ∈ lw_good := kt 728 (by decide +kernel) (by decide +kernel)
theorem kV_X0_imitate : Cond.selects RX0 yX0_imitate yX0_imitate ∈ lw_good := kt 729 (by decide +kernel) (by decide +kernel)
theorem kC_X0_imitate : Cond.code yX0_imitate cX0_imitate 2 none ∈ lw_good := kt 730 (by decide +kernel) (by decide +kernel)
theorem kM_X0_33 : Cond.methodLink RX0 33 ⟨"java/lang/System", "arraycopy", "(Ljava/lang/Object;ILjava/lang/Object;II)V"⟩ ∈ lw_good := kt 731 (by decide +kernel) (by decide +kernel)
theorem kM_X2_103 : Cond.methodLink RX2 103 yX6_init ∈ lw_good := kt 732 (by decide +kernel) (by decide +kernel)
theorem kM_X2_105 : Cond.methodLink RX2 105 yX6_imitate ∈ lw_good := kt 733 (by decide +kernel) (by decide +kernel)
theorem kI_X6_imitate : Cond.instanceMethod yX6_imitate ∈ lw_good := kt 734 (by decide +kernel) (by decide +kernel)
theorem kV_X6_imitate : Cond.selects RX6 yX6_imitate yX6_imitate ∈ lw_good := kt 735 (by decide +kernel) (by decide +kernel)
theorem kC_X6_imitate : Cond.code yX6_imitate cX6_imitate 2 none ∈ lw_good := kt 736 (by decide +kernel) (by decide +kernel)
theorem kM_X6_77 : Cond.methodLink RX6 77 yX4_imitate ∈ lw_good := kt 737 (by decide +kernel) (by decide +kernel)
theorem kI_X4_imitate : Cond.instanceMethod yX4_imitate ∈ lw_good := kt 738 (by decide +kernel) (by decide +kernel)
theorem kV_X4_imitate : Cond.selects RX4 yX4_imitate yX4_imitate ∈ lw_good := kt 739 (by decide +kernel) (by decide +kernel)
theorem kC_X4_imitate : Cond.code yX4_imitate cX4_imitate 2 none ∈ lw_good := kt 740 (by decide +kernel) (by decide +kernel)
theorem kM_L_81 : Cond.methodLink RL 81 yX7_best ∈ lw_good := kt 741 (by decide +kernel) (by decide +kernel)
theorem kI_X7_best : Cond.instanceMethod yX7_best ∈ lw_good := kt 742 (by decide +kernel) (by decide +kernel)
theorem kV_X7_best : Cond.selects RX7 yX7_best yX7_best ∈ lw_good := kt 743 (by decide +kernel) (by decide +kernel)
theorem kC_X7_best : Cond.code yX7_best cX7_best 11 (some .int) ∈ lw_good := kt 744 (by decide +kernel) (by decide +kernel)
theorem kM_L_85 : Cond.methodLink RL 85 yX7_look ∈ lw_good := kt 745 (by decide +kernel) (by decide +kernel)
theorem kI_X7_look : Cond.instanceMethod yX7_look ∈ lw_good := kt 746 (by decide +kernel) (by decide +kernel)
theorem kV_X7_look : Cond.selects RX7 yX7_look yX7_look ∈ lw_good := kt 747 (by decide +kernel) (by decide +kernel)
theorem kC_X7_look : Cond.code yX7_look cX7_look 4 (some .long) ∈ lw_good := kt 748 (by decide +kernel) (by decide +kernel)
theorem kM_X7_183 : Cond.methodLink RX7 183 yX4_room ∈ lw_good := kt 749 (by decide +kernel) (by decide +kernel)
theorem kI_X4_room : Cond.instanceMethod yX4_room ∈ lw_good := kt 750 (by decide +kernel) (by decide +kernel)
theorem kV_X4_room : Cond.selects RX4 yX4_room yX4_room ∈ lw_good := kt 751 (by decide +kernel) (by decide +kernel)
theorem kC_X4_room : Cond.code yX4_room cX4_room 1 (some .int) ∈ lw_good := kt 752 (by decide +kernel) (by decide +kernel)
theorem kM_X7_186 : Cond.methodLink RX7 186 yX6_price ∈ lw_good := kt 753 (by decide +kernel) (by decide +kernel)
theorem kM_X7_189 : Cond.methodLink RX7 189 yX4_lotCount ∈ lw_good := kt 754 (by decide +kernel) (by decide +kernel)
theorem kI_X4_lotCount : Cond.instanceMethod yX4_lotCount ∈ lw_good := kt 755 (by decide +kernel) (by decide +kernel)
theorem kV_X4_lotCount : Cond.selects RX4 yX4_lotCount yX4_lotCount ∈ lw_good := kt 756 (by decide +kernel) (by decide +kernel)
theorem kC_X4_lotCount : Cond.code yX4_lotCount cX4_lotCount 1 (some .int) ∈ lw_good := kt 757 (by decide +kernel) (by decide +kernel)
theorem kM_X7_192 : Cond.methodLink RX7 192 yX4_bookInAll ∈ lw_good := kt 758 (by decide +kernel) (by decide +kernel)
theorem kI_X4_bookInAll : Cond.instanceMethod yX4_bookInAll ∈ lw_good := kt 759 (by decide +kernel) (by decide +kernel)
theorem kV_X4_bookInAll : Cond.selects RX4 yX4_bookInAll yX4_bookInAll ∈ lw_good := kt 760 (by decide +kernel) (by decide +kernel)
theorem kC_X4_bookInAll : Cond.code yX4_bookInAll cX4_bookInAll 4 (some .long) ∈ lw_good := kt 761 (by decide +kernel) (by decide +kernel)
theorem kM_L_89 : Cond.methodLink RL 89 yX7_lot ∈ lw_good := kt 762 (by decide +kernel) (by decide +kernel)
theorem kI_X7_lot : Cond.instanceMethod yX7_lot ∈ lw_good := kt 763 (by decide +kernel) (by decide +kernel)
theorem kV_X7_lot : Cond.selects RX7 yX7_lot yX7_lot ∈ lw_good := kt 764 (by decide +kernel) (by decide +kernel)
theorem kC_X7_lot : Cond.code yX7_lot cX7_lot 5 (some .int) ∈ lw_good := kt 765 (by decide +kernel) (by decide +kernel)
theorem kM_X7_207 : Cond.methodLink RX7 207 yX4_monthOf ∈ lw_good := kt 766 (by decide +kernel) (by decide +kernel)
theorem kI_X4_monthOf : Cond.instanceMethod yX4_monthOf ∈ lw_good := kt 767 (by decide +kernel) (by decide +kernel)
theorem kV_X4_monthOf : Cond.selects RX4 yX4_monthOf yX4_monthOf ∈ lw_good := kt 768 (by decide +kernel) (by decide +kernel)
theorem kC_X4_monthOf : Cond.code yX4_monthOf cX4_monthOf 2 (some .int) ∈ lw_good := kt 769 (by decide +kernel) (by decide +kernel)
theorem kM_X7_210 : Cond.methodLink RX7 210 yX4_bookOf ∈ lw_good := kt 770 (by decide +kernel) (by decide +kernel)
theorem kI_X4_bookOf : Cond.instanceMethod yX4_bookOf ∈ lw_good := kt 771 (by decide +kernel) (by decide +kernel)
theorem kV_X4_bookOf : Cond.selects RX4 yX4_bookOf yX4_bookOf ∈ lw_good := kt 772 (by decide +kernel) (by decide +kernel)
theorem kC_X4_bookOf : Cond.code yX4_bookOf cX4_bookOf 2 (some .int) ∈ lw_good := kt 773 (by decide +kernel) (by decide +kernel)
theorem kM_X7_213 : Cond.methodLink RX7 213 yX4_measuredOf ∈ lw_good := kt 774 (by decide +kernel) (by decide +kernel)
theorem kI_X4_measuredOf : Cond.instanceMethod yX4_measuredOf ∈ lw_good := kt 775 (by decide +kernel) (by decide +kernel)
theorem kV_X4_measuredOf : Cond.selects RX4 yX4_measuredOf yX4_measuredOf ∈ lw_good := kt 776 (by decide +kernel) (by decide +kernel)
theorem kC_X4_measuredOf : Cond.code yX4_measuredOf cX4_measuredOf 2 (some .int) ∈ lw_good := kt 777 (by decide +kernel) (by decide +kernel)
theorem kM_L_93 : Cond.methodLink RL 93 yX7_count ∈ lw_good := kt 778 (by decide +kernel) (by decide +kernel)
theorem kI_X7_count : Cond.instanceMethod yX7_count ∈ lw_good := kt 779 (by decide +kernel) (by decide +kernel)
theorem kV_X7_count : Cond.selects RX7 yX7_count yX7_count ∈ lw_good := kt 780 (by decide +kernel) (by decide +kernel)
theorem kC_X7_count : Cond.code yX7_count cX7_count 2 (some .long) ∈ lw_good := kt 781 (by decide +kernel) (by decide +kernel)
theorem kM_X7_216 : Cond.methodLink RX7 216 yX2_measuresOnTheWay ∈ lw_good := kt 782 (by decide +kernel) (by decide +kernel)
theorem kI_X2_measuresOnTheWay : Cond.instanceMethod yX2_measuresOnTheWay ∈ lw_good := kt 783 (by decide +kernel) (by decide +kernel)
theorem kV_X2_measuresOnTheWay : Cond.selects RX2 yX2_measuresOnTheWay yX2_measuresOnTheWay ∈ lw_good := kt 784 (by decide +kernel) (by decide +kernel)
theorem kC_X2_measuresOnTheWay : Cond.code yX2_measuresOnTheWay cX2_measuresOnTheWay 1 (some .long) ∈ lw_good := kt 785 (by decide +kernel) (by decide +kernel)
theorem kM_X2_71 : Cond.methodLink RX2 71 yX0_loadInAll ∈ lw_good := kt 786 (by decide +kernel) (by decide +kernel)
theorem kI_X0_loadInAll : Cond.instanceMethod yX0_loadInAll ∈ lw_good := kt 787 (by decide +kernel) (by decide +kernel)
theorem kV_X0_loadInAll : Cond.selects RX0 yX0_loadInAll yX0_loadInAll ∈ lw_good := kt 788 (by decide +kernel) (by decide +kernel)
theorem kC_X0_loadInAll : Cond.code yX0_loadInAll cX0_loadInAll 4 (some .long) ∈ lw_good := kt 789 (by decide +kernel) (by decide +kernel)
theorem kM_X7_219 : Cond.methodLink RX7 219 yX2_hungerEver ∈ lw_good := kt 790 (by decide +kernel) (by decide +kernel)
theorem kI_X2_hungerEver : Cond.instanceMethod yX2_hungerEver ∈ lw_good := kt 791 (by decide +kernel) (by decide +kernel)
theorem kV_X2_hungerEver : Cond.selects RX2 yX2_hungerEver yX2_hungerEver ∈ lw_good := kt 792 (by decide +kernel) (by decide +kernel)
theorem kC_X2_hungerEver : Cond.code yX2_hungerEver cX2_hungerEver 4 (some .long) ∈ lw_good := kt 793 (by decide +kernel) (by decide +kernel)
theorem kM_X7_222 : Cond.methodLink RX7 222 yX7_takenByRoad ∈ lw_good := kt 794 (by decide +kernel) (by decide +kernel)
theorem kI_X7_takenByRoad : Cond.instanceMethod yX7_takenByRoad ∈ lw_good := kt 796 (by decide +kernel) (by decide +kernel)
theorem kC_X7_takenByRoad : Cond.code yX7_takenByRoad cX7_takenByRoad 3 (some .long) ∈ lw_good := kt 797 (by decide +kernel) (by decide +kernel)
theorem kL_L_10 : Cond.classLink RL 10 RX8 ∈ lw_good := kt 798 (by decide +kernel) (by decide +kernel)
theorem kT_X8 : Cond.instantiable RX8 34 ∈ lw_good := kt 799 (by decide +kernel) (by decide +kernel)
theorem kM_L_12 : Cond.methodLink RL 12 yX8_init ∈ lw_good := kt 800 (by decide +kernel) (by decide +kernel)
theorem kI_X8_init : Cond.instanceMethod yX8_init ∈ lw_good := kt 801 (by decide +kernel) (by decide +kernel)
theorem kC_X8_init : Cond.code yX8_init cX8_init 1 none ∈ lw_good := kt 802 (by decide +kernel) (by decide +kernel)
theorem kM_X8_1 : Cond.methodLink RX8 1 objectInit ∈ lw_good := kt 803 (by decide +kernel) (by decide +kernel)
theorem kM_X8_106 : Cond.methodLink RX8 106 yX8_asAtFirst ∈ lw_good := kt 804 (by decide +kernel) (by decide +kernel)
theorem kS_X8_asAtFirst : Cond.static yX8_asAtFirst ∈ lw_good := kt 805 (by decide +kernel) (by decide +kernel)
theorem kC_X8_asAtFirst : Cond.code yX8_asAtFirst cX8_asAtFirst 1 none ∈ lw_good := kt 806 (by decide +kernel) (by decide +kernel)
theorem kF_X8_7 : Cond.fieldLink RX8 7 "EvenGranaryModel" "tape" "[B" ∈ lw_good := kt 807 (by decide +kernel) (by decide +kernel)
theorem kF_X8_110 : Cond.fieldLink RX8 110 "EvenGranaryModel" "taped" "I" ∈ lw_good := kt 808 (by decide +kernel) (by decide +kernel)
theorem kF_X8_13 : Cond.fieldLink RX8 13 "EvenGranaryModel" "edict" "[I" ∈ lw_good := kt 809 (by decide +kernel) (by decide +kernel)
theorem kF_X8_17 : Cond.fieldLink RX8 17 "EvenGranaryModel" "next" "[I" ∈ lw_good := kt 810 (by decide +kernel) (by decide +kernel)
theorem kF_X8_20 : Cond.fieldLink RX8 20 "EvenGranaryModel" "read" "[I" ∈ lw_good := kt 811 (by decide +kernel) (by decide +kernel)
theorem kF_X8_143 : Cond.fieldLink RX8 143 "EvenGranaryModel" "towns" "I" ∈ lw_good := kt 812 (by decide +kernel) (by decide +kernel)
theorem kF_X8_152 : Cond.fieldLink RX8 152 "EvenGranaryModel" "roads" "I" ∈ lw_good := kt 813 (by decide +kernel) (by decide +kernel)
theorem kF_X8_23 : Cond.fieldLink RX8 23 "EvenGranaryModel" "eats" "[I" ∈ lw_good := kt 814 (by decide +kernel) (by decide +kernel)
theorem kF_X8_26 : Cond.fieldLink RX8 26 "EvenGranaryModel" "room" "[I" ∈ lw_good := kt 815 (by decide +kernel) (by decide +kernel)
theorem kF_X8_29 : Cond.fieldLink RX8 29 "EvenGranaryModel" "harvest" "[I" ∈ lw_good := kt 816 (by decide +kernel) (by decide +kernel)
theorem kF_X8_32 : Cond.fieldLink RX8 32 "EvenGranaryModel" "roadA" "[I" ∈ lw_good := kt 817 (by decide +kernel) (by decide +kernel)
theorem kF_X8_35 : Cond.fieldLink RX8 35 "EvenGranaryModel" "roadB" "[I" ∈ lw_good := kt 818 (by decide +kernel) (by decide +kernel)
theorem kF_X8_38 : Cond.fieldLink RX8 38 "EvenGranaryModel" "ways" "[I" ∈ lw_good := kt 819 (by decide +kernel) (by decide +kernel)
theorem kF_X8_41 : Cond.fieldLink RX8 41 "EvenGranaryModel" "carts" "[I" ∈ lw_good := kt 820 (by decide +kernel) (by decide +kernel)
theorem kF_X8_44 : Cond.fieldLink RX8 44 "EvenGranaryModel" "used" "[I" ∈ lw_good := kt 821 (by decide +kernel) (by decide +kernel)
theorem kF_X8_47 : Cond.fieldLink RX8 47 "EvenGranaryModel" "month" "[I" ∈ lw_good := kt 822 (by decide +kernel) (by decide +kernel)
theorem kF_X8_50 : Cond.fieldLink RX8 50 "EvenGranaryModel" "coin" "[J" ∈ lw_good := kt 823 (by decide +kernel) (by decide +kernel)
theorem kF_X8_54 : Cond.fieldLink RX8 54 "EvenGranaryModel" "onWay" "[I" ∈ lw_good := kt 824 (by decide +kernel) (by decide +kernel)
theorem kF_X8_57 : Cond.fieldLink RX8 57 "EvenGranaryModel" "cartTo" "[I" ∈ lw_good := kt 825 (by decide +kernel) (by decide +kernel)
theorem kF_X8_60 : Cond.fieldLink RX8 60 "EvenGranaryModel" "cartAt" "[I" ∈ lw_good := kt 826 (by decide +kernel) (by decide +kernel)
theorem kF_X8_63 : Cond.fieldLink RX8 63 "EvenGranaryModel" "cartHas" "[I" ∈ lw_good := kt 827 (by decide +kernel) (by decide +kernel)
theorem kF_X8_66 : Cond.fieldLink RX8 66 "EvenGranaryModel" "market" "[J" ∈ lw_good := kt 828 (by decide +kernel) (by decide +kernel)
theorem kF_X8_69 : Cond.fieldLink RX8 69 "EvenGranaryModel" "lots" "[I" ∈ lw_good := kt 829 (by decide +kernel) (by decide +kernel)
theorem kF_X8_72 : Cond.fieldLink RX8 72 "EvenGranaryModel" "found" "[J" ∈ lw_good := kt 830 (by decide +kernel) (by decide +kernel)
theorem kF_X8_75 : Cond.fieldLink RX8 75 "EvenGranaryModel" "hunger" "[J" ∈ lw_good := kt 831 (by decide +kernel) (by decide +kernel)
theorem kF_X8_78 : Cond.fieldLink RX8 78 "EvenGranaryModel" "spoilt" "[J" ∈ lw_good := kt 832 (by decide +kernel) (by decide +kernel)
theorem kF_X8_81 : Cond.fieldLink RX8 81 "EvenGranaryModel" "owes" "[J" ∈ lw_good := kt 833 (by decide +kernel) (by decide +kernel)
theorem kF_X8_84 : Cond.fieldLink RX8 84 "EvenGranaryModel" "bought" "[J" ∈ lw_good := kt 834 (by decide +kernel) (by decide +kernel)
theorem kF_X8_87 : Cond.fieldLink RX8 87 "EvenGranaryModel" "sold" "[J" ∈ lw_good := kt 835 (by decide +kernel) (by decide +kernel)
theorem kF_X8_90 : Cond.fieldLink RX8 90 "EvenGranaryModel" "stolen" "[J" ∈ lw_good := kt 836 (by decide +kernel) (by decide +kernel)
theorem kF_X8_93 : Cond.fieldLink RX8 93 "EvenGranaryModel" "lotMonth" "[I" ∈ lw_good := kt 837 (by decide +kernel) (by decide +kernel)
theorem kF_X8_96 : Cond.fieldLink RX8 96 "EvenGranaryModel" "book" "[I" ∈ lw_good := kt 838 (by decide +kernel) (by decide +kernel)
theorem kF_X8_99 : Cond.fieldLink RX8 99 "EvenGranaryModel" "real" "[I" ∈ lw_good := kt 839 (by decide +kernel) (by decide +kernel)
theorem kF_X8_102 : Cond.fieldLink RX8 102 "EvenGranaryModel" "isSure" "[Z" ∈ lw_good := kt 840 (by decide +kernel) (by decide +kernel)
theorem kA_long : Cond.arrayClass .long ∈ lw_good := kt 910 (by decide +kernel) (by decide +kernel)
theorem kA_boolean : Cond.arrayClass .boolean ∈ lw_good := kt 911 (by decide +kernel) (by decide +kernel)
theorem kM_L_17 : Cond.methodLink RL 17 yX8_feed ∈ lw_good := kt 912 (by decide +kernel) (by decide +kernel)
theorem kI_X8_feed : Cond.instanceMethod yX8_feed ∈ lw_good := kt 913 (by decide +kernel) (by decide +kernel)
theorem kV_X8_feed : Cond.selects RX8 yX8_feed yX8_feed ∈ lw_good := kt 914 (by decide +kernel) (by decide +kernel)
theorem kC_X8_feed : Cond.code yX8_feed cX8_feed 6 (some .int) ∈ lw_good := kt 915 (by decide +kernel) (by decide +kernel)
theorem kM_X8_114 : Cond.methodLink RX8 114 yX8_push ∈ lw_good := kt 916 (by decide +kernel) (by decide +kernel)
theorem kI_X8_push : Cond.instanceMethod yX8_push ∈ lw_good := kt 918 (by decide +kernel) (by decide +kernel)
theorem kC_X8_push : Cond.code yX8_push cX8_push 3 none ∈ lw_good := kt 919 (by decide +kernel) (by decide +kernel)
theorem kM_L_22 : Cond.methodLink RL 22 yX8_edict ∈ lw_good := kt 920 (by decide +kernel) (by decide +kernel)
theorem kI_X8_edict : Cond.instanceMethod yX8_edict ∈ lw_good := kt 921 (by decide +kernel) (by decide +kernel)
theorem kV_X8_edict : Cond.selects RX8 yX8_edict yX8_edict ∈ lw_good := kt 922 (by decide +kernel) (by decide +kernel)
theorem kC_X8_edict : Cond.code yX8_edict cX8_edict 4 (some .int) ∈ lw_good := kt 923 (by decide +kernel) (by decide +kernel)
theorem kM_X8_140 : Cond.methodLink RX8 140 yX8_reads ∈ lw_good := kt 924 (by decide +kernel) (by decide +kernel)
theorem kI_X8_reads : Cond.instanceMethod yX8_reads ∈ lw_good := kt 926 (by decide +kernel) (by decide +kernel)
theorem kC_X8_reads : Cond.code yX8_reads cX8_reads 7 (some .int) ∈ lw_good := kt 927 (by decide +kernel) (by decide +kernel)
theorem kM_X8_124 : Cond.methodLink RX8 124 yX8_at ∈ lw_good := kt 928 (by decide +kernel) (by decide +kernel)
theorem kI_X8_at : Cond.instanceMethod yX8_at ∈ lw_good := kt 930 (by decide +kernel) (by decide +kernel)
theorem kC_X8_at : Cond.code yX8_at cX8_at 3 (some .int) ∈ lw_good := kt 931 (by decide +kernel) (by decide +kernel)
theorem kM_X8_128 : Cond.methodLink RX8 128 yX8_letter ∈ lw_good := kt 932 (by decide +kernel) (by decide +kernel)
theorem kS_X8_letter : Cond.static yX8_letter ∈ lw_good := kt 933 (by decide +kernel) (by decide +kernel)
theorem kC_X8_letter : Cond.code yX8_letter cX8_letter 1 (some .int) ∈ lw_good := kt 934 (by decide +kernel) (by decide +kernel)
theorem kK_X8_132 : Cond.constantLong RX8 132 (48) ∈ lw_good := kt 935 (by decide +kernel) (by decide +kernel)
theorem kK_X8_134 : Cond.constantLong RX8 134 (57) ∈ lw_good := kt 936 (by decide +kernel) (by decide +kernel)
theorem kM_X8_120 : Cond.methodLink RX8 120 yX8_lies ∈ lw_good := kt 937 (by decide +kernel) (by decide +kernel)
theorem kS_X8_lies : Cond.static yX8_lies ∈ lw_good := kt 938 (by decide +kernel) (by decide +kernel)
theorem kC_X8_lies : Cond.code yX8_lies cX8_lies 6 (some .boolean) ∈ lw_good := kt 939 (by decide +kernel) (by decide +kernel)
theorem kM_X8_136 : Cond.methodLink RX8 136 yX8_canBe ∈ lw_good := kt 940 (by decide +kernel) (by decide +kernel)
theorem kS_X8_canBe : Cond.static yX8_canBe ∈ lw_good := kt 941 (by decide +kernel) (by decide +kernel)
theorem kC_X8_canBe : Cond.code yX8_canBe cX8_canBe 2 (some .boolean) ∈ lw_good := kt 942 (by decide +kernel) (by decide +kernel)
theorem kK_X8_118 : Cond.constantLong RX8 118 (999) ∈ lw_good := kt 943 (by decide +kernel) (by decide +kernel)
theorem kM_L_26 : Cond.methodLink RL 26 yX8_rule ∈ lw_good := kt 944 (by decide +kernel) (by decide +kernel)
theorem kI_X8_rule : Cond.instanceMethod yX8_rule ∈ lw_good := kt 945 (by decide +kernel) (by decide +kernel)
theorem kV_X8_rule : Cond.selects RX8 yX8_rule yX8_rule ∈ lw_good := kt 946 (by decide +kernel) (by decide +kernel)
theorem kC_X8_rule : Cond.code yX8_rule cX8_rule 2 (some .int) ∈ lw_good := kt 947 (by decide +kernel) (by decide +kernel)
theorem kM_L_31 : Cond.methodLink RL 31 yX8_town ∈ lw_good := kt 948 (by decide +kernel) (by decide +kernel)
theorem kI_X8_town : Cond.instanceMethod yX8_town ∈ lw_good := kt 949 (by decide +kernel) (by decide +kernel)
theorem kV_X8_town : Cond.selects RX8 yX8_town yX8_town ∈ lw_good := kt 950 (by decide +kernel) (by decide +kernel)
theorem kC_X8_town : Cond.code yX8_town cX8_town 4 (some .int) ∈ lw_good := kt 951 (by decide +kernel) (by decide +kernel)
theorem kK_X8_146 : Cond.constantLong RX8 146 (1000) ∈ lw_good := kt 952 (by decide +kernel) (by decide +kernel)
theorem kK_X8_148 : Cond.constantLong RX8 148 (100000) ∈ lw_good := kt 953 (by decide +kernel) (by decide +kernel)
theorem kK_X8_150 : Cond.constantLong RX8 150 (50000) ∈ lw_good := kt 954 (by decide +kernel) (by decide +kernel)
theorem kM_L_36 : Cond.methodLink RL 36 yX8_road ∈ lw_good := kt 955 (by decide +kernel) (by decide +kernel)
theorem kI_X8_road : Cond.instanceMethod yX8_road ∈ lw_good := kt 956 (by decide +kernel) (by decide +kernel)
theorem kV_X8_road : Cond.selects RX8 yX8_road yX8_road ∈ lw_good := kt 957 (by decide +kernel) (by decide +kernel)
theorem kC_X8_road : Cond.code yX8_road cX8_road 5 (some .int) ∈ lw_good := kt 958 (by decide +kernel) (by decide +kernel)
theorem kM_X8_155 : Cond.methodLink RX8 155 yX8_isTown ∈ lw_good := kt 959 (by decide +kernel) (by decide +kernel)
theorem kI_X8_isTown : Cond.instanceMethod yX8_isTown ∈ lw_good := kt 961 (by decide +kernel) (by decide +kernel)
theorem kC_X8_isTown : Cond.code yX8_isTown cX8_isTown 2 (some .boolean) ∈ lw_good := kt 962 (by decide +kernel) (by decide +kernel)
theorem kK_X8_159 : Cond.constantLong RX8 159 (6) ∈ lw_good := kt 963 (by decide +kernel) (by decide +kernel)
theorem kK_X8_161 : Cond.constantLong RX8 161 (10000) ∈ lw_good := kt 964 (by decide +kernel) (by decide +kernel)
theorem kM_L_43 : Cond.methodLink RL 43 yX8_coin ∈ lw_good := kt 965 (by decide +kernel) (by decide +kernel)
theorem kI_X8_coin : Cond.instanceMethod yX8_coin ∈ lw_good := kt 966 (by decide +kernel) (by decide +kernel)
theorem kV_X8_coin : Cond.selects RX8 yX8_coin yX8_coin ∈ lw_good := kt 967 (by decide +kernel) (by decide +kernel)
theorem kC_X8_coin : Cond.code yX8_coin cX8_coin 3 (some .boolean) ∈ lw_good := kt 968 (by decide +kernel) (by decide +kernel)
theorem kK_X8_163 : Cond.constantLong RX8 163 (1000000000) ∈ lw_good := kt 969 (by decide +kernel) (by decide +kernel)
theorem kM_L_48 : Cond.methodLink RL 48 yX8_harvest ∈ lw_good := kt 970 (by decide +kernel) (by decide +kernel)
theorem kI_X8_harvest : Cond.instanceMethod yX8_harvest ∈ lw_good := kt 971 (by decide +kernel) (by decide +kernel)
theorem kV_X8_harvest : Cond.selects RX8 yX8_harvest yX8_harvest ∈ lw_good := kt 972 (by decide +kernel) (by decide +kernel)
theorem kC_X8_harvest : Cond.code yX8_harvest cX8_harvest 3 (some .boolean) ∈ lw_good := kt 973 (by decide +kernel) (by decide +kernel)
theorem kM_L_52 : Cond.methodLink RL 52 yX8_step ∈ lw_good := kt 974 (by decide +kernel) (by decide +kernel)
theorem kI_X8_step : Cond.instanceMethod yX8_step ∈ lw_good := kt 975 (by decide +kernel) (by decide +kernel)
theorem kV_X8_step : Cond.selects RX8 yX8_step yX8_step ∈ lw_good := kt 976 (by decide +kernel) (by decide +kernel)
theorem kC_X8_step : Cond.code yX8_step cX8_step 3 (some .int) ∈ lw_good := kt 977 (by decide +kernel) (by decide +kernel)
theorem kK_X8_213 : Cond.constantLong RX8 213 (24) ∈ lw_good := kt 978 (by decide +kernel) (by decide +kernel)
theorem kM_X8_215 : Cond.methodLink RX8 215 yX8_goesBy ∈ lw_good := kt 979 (by decide +kernel) (by decide +kernel)
theorem kI_X8_goesBy : Cond.instanceMethod yX8_goesBy ∈ lw_good := kt 981 (by decide +kernel) (by decide +kernel)
theorem kC_X8_goesBy : Cond.code yX8_goesBy cX8_goesBy 7 none ∈ lw_good := kt 982 (by decide +kernel) (by decide +kernel)
theorem kM_X8_196 : Cond.methodLink RX8 196 yX8_cartsCome ∈ lw_good := kt 983 (by decide +kernel) (by decide +kernel)
theorem kI_X8_cartsCome : Cond.instanceMethod yX8_cartsCome ∈ lw_good := kt 985 (by decide +kernel) (by decide +kernel)
theorem kC_X8_cartsCome : Cond.code yX8_cartsCome cX8_cartsCome 8 none ∈ lw_good := kt 986 (by decide +kernel) (by decide +kernel)
theorem kM_X8_173 : Cond.methodLink RX8 173 yX8_space ∈ lw_good := kt 987 (by decide +kernel) (by decide +kernel)
theorem kI_X8_space : Cond.instanceMethod yX8_space ∈ lw_good := kt 989 (by decide +kernel) (by decide +kernel)
theorem kC_X8_space : Cond.code yX8_space cX8_space 3 (some .long) ∈ lw_good := kt 990 (by decide +kernel) (by decide +kernel)
theorem kM_X8_169 : Cond.methodLink RX8 169 yX8_trueIn ∈ lw_good := kt 991 (by decide +kernel) (by decide +kernel)
theorem kI_X8_trueIn : Cond.instanceMethod yX8_trueIn ∈ lw_good := kt 993 (by decide +kernel) (by decide +kernel)
theorem kC_X8_trueIn : Cond.code yX8_trueIn cX8_trueIn 5 (some .long) ∈ lw_good := kt 994 (by decide +kernel) (by decide +kernel)
theorem kM_X8_177 : Cond.methodLink RX8 177 yX8_least ∈ lw_good := kt 995 (by decide +kernel) (by decide +kernel)
theorem kS_X8_least : Cond.static yX8_least ∈ lw_good := kt 996 (by decide +kernel) (by decide +kernel)
theorem kC_X8_least : Cond.code yX8_least cX8_least 4 (some .long) ∈ lw_good := kt 997 (by decide +kernel) (by decide +kernel)
theorem kM_X8_181 : Cond.methodLink RX8 181 yX8_comes ∈ lw_good := kt 998 (by decide +kernel) (by decide +kernel)
theorem kI_X8_comes : Cond.instanceMethod yX8_comes ∈ lw_good := kt 1000 (by decide +kernel) (by decide +kernel)
theorem kC_X8_comes : Cond.code yX8_comes cX8_comes 6 none ∈ lw_good := kt 1001 (by decide +kernel) (by decide +kernel)
theorem kM_X8_199 : Cond.methodLink RX8 199 yX8_harvests ∈ lw_good := kt 1002 (by decide +kernel) (by decide +kernel)
theorem kI_X8_harvests : Cond.instanceMethod yX8_harvests ∈ lw_good := kt 1004 (by decide +kernel) (by decide +kernel)
theorem kC_X8_harvests : Cond.code yX8_harvests cX8_harvests 6 none ∈ lw_good := kt 1005 (by decide +kernel) (by decide +kernel)
theorem kM_X8_202 : Cond.methodLink RX8 202 yX8_trades ∈ lw_good := kt 1006 (by decide +kernel) (by decide +kernel)
theorem kI_X8_trades : Cond.instanceMethod yX8_trades ∈ lw_good := kt 1008 (by decide +kernel) (by decide +kernel)
theorem kC_X8_trades : Cond.code yX8_trades cX8_trades 9 none ∈ lw_good := kt 1009 (by decide +kernel) (by decide +kernel)
theorem kM_X8_185 : Cond.methodLink RX8 185 yX8_price ∈ lw_good := kt 1010 (by decide +kernel) (by decide +kernel)
theorem kI_X8_price : Cond.instanceMethod yX8_price ∈ lw_good := kt 1012 (by decide +kernel) (by decide +kernel)
theorem kC_X8_price : Cond.code yX8_price cX8_price 3 (some .long) ∈ lw_good := kt 1013 (by decide +kernel) (by decide +kernel)
theorem kM_X8_188 : Cond.methodLink RX8 188 yX8_takes ∈ lw_good := kt 1014 (by decide +kernel) (by decide +kernel)
theorem kI_X8_takes : Cond.instanceMethod yX8_takes ∈ lw_good := kt 1016 (by decide +kernel) (by decide +kernel)
theorem kC_X8_takes : Cond.code yX8_takes cX8_takes 8 none ∈ lw_good := kt 1017 (by decide +kernel) (by decide +kernel)
theorem kM_X8_165 : Cond.methodLink RX8 165 yX8_goes ∈ lw_good := kt 1018 (by decide +kernel) (by decide +kernel)
theorem kI_X8_goes : Cond.instanceMethod yX8_goes ∈ lw_good := kt 1020 (by decide +kernel) (by decide +kernel)
theorem kC_X8_goes : Cond.code yX8_goes cX8_goes 4 none ∈ lw_good := kt 1021 (by decide +kernel) (by decide +kernel)
theorem kM_X8_206 : Cond.methodLink RX8 206 yX8_spoils ∈ lw_good := kt 1022 (by decide +kernel) (by decide +kernel)
theorem kI_X8_spoils : Cond.instanceMethod yX8_spoils ∈ lw_good := kt 1024 (by decide +kernel) (by decide +kernel)
theorem kC_X8_spoils : Cond.code yX8_spoils cX8_spoils 7 none ∈ lw_good := kt 1025 (by decide +kernel) (by decide +kernel)
theorem kK_X8_192 : Cond.constantLong RX8 192 (99) ∈ lw_good := kt 1026 (by decide +kernel) (by decide +kernel)
theorem kK_X8_194 : Cond.constantLong RX8 194 (100) ∈ lw_good := kt 1027 (by decide +kernel) (by decide +kernel)
theorem kM_X8_209 : Cond.methodLink RX8 209 yX8_turns ∈ lw_good := kt 1028 (by decide +kernel) (by decide +kernel)
theorem kI_X8_turns : Cond.instanceMethod yX8_turns ∈ lw_good := kt 1030 (by decide +kernel) (by decide +kernel)
theorem kC_X8_turns : Cond.code yX8_turns cX8_turns 6 none ∈ lw_good := kt 1031 (by decide +kernel) (by decide +kernel)
theorem kM_L_57 : Cond.methodLink RL 57 yX8_move ∈ lw_good := kt 1032 (by decide +kernel) (by decide +kernel)
theorem kI_X8_move : Cond.instanceMethod yX8_move ∈ lw_good := kt 1033 (by decide +kernel) (by decide +kernel)
theorem kV_X8_move : Cond.selects RX8 yX8_move yX8_move ∈ lw_good := kt 1034 (by decide +kernel) (by decide +kernel)
theorem kC_X8_move : Cond.code yX8_move cX8_move 4 (some .boolean) ∈ lw_good := kt 1035 (by decide +kernel) (by decide +kernel)
theorem kM_X8_219 : Cond.methodLink RX8 219 yX8_begins ∈ lw_good := kt 1036 (by decide +kernel) (by decide +kernel)
theorem kI_X8_begins : Cond.instanceMethod yX8_begins ∈ lw_good := kt 1038 (by decide +kernel) (by decide +kernel)
theorem kC_X8_begins : Cond.code yX8_begins cX8_begins 3 (some .boolean) ∈ lw_good := kt 1039 (by decide +kernel) (by decide +kernel)
theorem kM_X8_222 : Cond.methodLink RX8 222 yX8_sends ∈ lw_good := kt 1040 (by decide +kernel) (by decide +kernel)
theorem kI_X8_sends : Cond.instanceMethod yX8_sends ∈ lw_good := kt 1042 (by decide +kernel) (by decide +kernel)
theorem kC_X8_sends : Cond.code yX8_sends cX8_sends 6 none ∈ lw_good := kt 1043 (by decide +kernel) (by decide +kernel)
theorem kM_L_62 : Cond.methodLink RL 62 yX8_loan ∈ lw_good := kt 1044 (by decide +kernel) (by decide +kernel)
theorem kI_X8_loan : Cond.instanceMethod yX8_loan ∈ lw_good := kt 1045 (by decide +kernel) (by decide +kernel)
theorem kV_X8_loan : Cond.selects RX8 yX8_loan yX8_loan ∈ lw_good := kt 1046 (by decide +kernel) (by decide +kernel)
theorem kC_X8_loan : Cond.code yX8_loan cX8_loan 3 (some .long) ∈ lw_good := kt 1047 (by decide +kernel) (by decide +kernel)
theorem kK_X8_226 : Cond.constantLong RX8 226 (-1) ∈ lw_good := kt 1048 (by decide +kernel) (by decide +kernel)
theorem kM_L_66 : Cond.methodLink RL 66 yX8_steal ∈ lw_good := kt 1049 (by decide +kernel) (by decide +kernel)
theorem kI_X8_steal : Cond.instanceMethod yX8_steal ∈ lw_good := kt 1050 (by decide +kernel) (by decide +kernel)
theorem kV_X8_steal : Cond.selects RX8 yX8_steal yX8_steal ∈ lw_good := kt 1051 (by decide +kernel) (by decide +kernel)
theorem kC_X8_steal : Cond.code yX8_steal cX8_steal 6 (some .boolean) ∈ lw_good := kt 1052 (by decide +kernel) (by decide +kernel)
theorem kM_L_71 : Cond.methodLink RL 71 yX8_measure ∈ lw_good := kt 1053 (by decide +kernel) (by decide +kernel)
theorem kI_X8_measure : Cond.instanceMethod yX8_measure ∈ lw_good := kt 1054 (by decide +kernel) (by decide +kernel)
theorem kV_X8_measure : Cond.selects RX8 yX8_measure yX8_measure ∈ lw_good := kt 1055 (by decide +kernel) (by decide +kernel)
theorem kC_X8_measure : Cond.code yX8_measure cX8_measure 5 (some .int) ∈ lw_good := kt 1056 (by decide +kernel) (by decide +kernel)
theorem kM_L_75 : Cond.methodLink RL 75 yX8_missing ∈ lw_good := kt 1057 (by decide +kernel) (by decide +kernel)
theorem kI_X8_missing : Cond.instanceMethod yX8_missing ∈ lw_good := kt 1058 (by decide +kernel) (by decide +kernel)
theorem kV_X8_missing : Cond.selects RX8 yX8_missing yX8_missing ∈ lw_good := kt 1059 (by decide +kernel) (by decide +kernel)
theorem kC_X8_missing : Cond.code yX8_missing cX8_missing 3 (some .long) ∈ lw_good := kt 1060 (by decide +kernel) (by decide +kernel)
theorem kM_X8_228 : Cond.methodLink RX8 228 yX8_bookIn ∈ lw_good := kt 1061 (by decide +kernel) (by decide +kernel)
theorem kI_X8_bookIn : Cond.instanceMethod yX8_bookIn ∈ lw_good := kt 1063 (by decide +kernel) (by decide +kernel)
theorem kC_X8_bookIn : Cond.code yX8_bookIn cX8_bookIn 6 (some .long) ∈ lw_good := kt 1064 (by decide +kernel) (by decide +kernel)
theorem kM_L_80 : Cond.methodLink RL 80 yX8_foretold ∈ lw_good := kt 1065 (by decide +kernel) (by decide +kernel)
theorem kI_X8_foretold : Cond.instanceMethod yX8_foretold ∈ lw_good := kt 1066 (by decide +kernel) (by decide +kernel)
theorem kV_X8_foretold : Cond.selects RX8 yX8_foretold yX8_foretold ∈ lw_good := kt 1067 (by decide +kernel) (by decide +kernel)
theorem kC_X8_foretold : Cond.code yX8_foretold cX8_foretold 2 (some .long) ∈ lw_good := kt 1068 (by decide +kernel) (by decide +kernel)
theorem kM_X8_235 : Cond.methodLink RX8 235 yX8_copies ∈ lw_good := kt 1069 (by decide +kernel) (by decide +kernel)
theorem kI_X8_copies : Cond.instanceMethod yX8_copies ∈ lw_good := kt 1071 (by decide +kernel) (by decide +kernel)
theorem kC_X8_copies : Cond.code yX8_copies cX8_copies 3 none ∈ lw_good := kt 1072 (by decide +kernel) (by decide +kernel)
theorem kM_X8_238 : Cond.methodLink RX8 238 yX8_goesOn ∈ lw_good := kt 1073 (by decide +kernel) (by decide +kernel)
theorem kI_X8_goesOn : Cond.instanceMethod yX8_goesOn ∈ lw_good := kt 1075 (by decide +kernel) (by decide +kernel)
theorem kC_X8_goesOn : Cond.code yX8_goesOn cX8_goesOn 3 (some .long) ∈ lw_good := kt 1076 (by decide +kernel) (by decide +kernel)
theorem kM_X8_232 : Cond.methodLink RX8 232 yX8_hungerIn ∈ lw_good := kt 1077 (by decide +kernel) (by decide +kernel)
theorem kI_X8_hungerIn : Cond.instanceMethod yX8_hungerIn ∈ lw_good := kt 1079 (by decide +kernel) (by decide +kernel)
theorem kC_X8_hungerIn : Cond.code yX8_hungerIn cX8_hungerIn 5 (some .long) ∈ lw_good := kt 1080 (by decide +kernel) (by decide +kernel)
theorem kM_L_84 : Cond.methodLink RL 84 yX8_best ∈ lw_good := kt 1081 (by decide +kernel) (by decide +kernel)
theorem kI_X8_best : Cond.instanceMethod yX8_best ∈ lw_good := kt 1082 (by decide +kernel) (by decide +kernel)
theorem kV_X8_best : Cond.selects RX8 yX8_best yX8_best ∈ lw_good := kt 1083 (by decide +kernel) (by decide +kernel)
theorem kC_X8_best : Cond.code yX8_best cX8_best 10 (some .int) ∈ lw_good := kt 1084 (by decide +kernel) (by decide +kernel)
theorem kM_L_88 : Cond.methodLink RL 88 yX8_look ∈ lw_good := kt 1085 (by decide +kernel) (by decide +kernel)
theorem kI_X8_look : Cond.instanceMethod yX8_look ∈ lw_good := kt 1086 (by decide +kernel) (by decide +kernel)
theorem kV_X8_look : Cond.selects RX8 yX8_look yX8_look ∈ lw_good := kt 1087 (by decide +kernel) (by decide +kernel)
theorem kC_X8_look : Cond.code yX8_look cX8_look 3 (some .long) ∈ lw_good := kt 1088 (by decide +kernel) (by decide +kernel)
theorem kM_L_92 : Cond.methodLink RL 92 yX8_lot ∈ lw_good := kt 1089 (by decide +kernel) (by decide +kernel)
theorem kI_X8_lot : Cond.instanceMethod yX8_lot ∈ lw_good := kt 1090 (by decide +kernel) (by decide +kernel)
theorem kV_X8_lot : Cond.selects RX8 yX8_lot yX8_lot ∈ lw_good := kt 1091 (by decide +kernel) (by decide +kernel)
theorem kC_X8_lot : Cond.code yX8_lot cX8_lot 5 (some .int) ∈ lw_good := kt 1092 (by decide +kernel) (by decide +kernel)
theorem kM_L_96 : Cond.methodLink RL 96 yX8_count ∈ lw_good := kt 1093 (by decide +kernel) (by decide +kernel)
theorem kI_X8_count : Cond.instanceMethod yX8_count ∈ lw_good := kt 1094 (by decide +kernel) (by decide +kernel)
theorem kV_X8_count : Cond.selects RX8 yX8_count yX8_count ∈ lw_good := kt 1095 (by decide +kernel) (by decide +kernel)
theorem kC_X8_count : Cond.code yX8_count cX8_count 5 (some .long) ∈ lw_good := kt 1096 (by decide +kernel) (by decide +kernel)
theorem kK_L_37 : Cond.constantLong RL 37 (4294967295) ∈ lw_good := kt 1097 (by decide +kernel) (by decide +kernel)
theorem kV2__Ljava_lang_Object__Object_getClass : Cond.selects "[Ljava/lang/Object;" ⟨"java/lang/Object", "getClass", "()Ljava/lang/Class;"⟩ ⟨"java/lang/Object", "getClass", "()Ljava/lang/Class;"⟩ ∈ lw_good := kt 1110 (by decide +kernel) (by decide +kernel)
theorem kF_J0_15 : Cond.fieldLink RJ0 15 "java/lang/String" "coder" "B" ∈ lw_good := kt 1117 (by decide +kernel) (by decide +kernel)
theorem kF_J0_9 : Cond.fieldLink RJ0 9 "java/lang/String" "value" "[B" ∈ lw_good := kt 1118 (by decide +kernel) (by decide +kernel)
theorem kV_Jx4a65c_add_72be8 : Cond.selects RJx4a65c yJx4a65c_add_72be8 yJx4a65c_add_72be8 ∈ lw_good := kp 0 (by decide +kernel) (by decide +kernel)
theorem kV_Jx4a65c_grow_d5877 : Cond.selects RJx4a65c yJx4a65c_grow_d5877 yJx4a65c_grow_d5877 ∈ lw_good := kp 1 (by decide +kernel) (by decide +kernel)
theorem kV_Jx4a65c_grow_92f84 : Cond.selects RJx4a65c yJx4a65c_grow_92f84 yJx4a65c_grow_92f84 ∈ lw_good := kp 2 (by decide +kernel) (by decide +kernel)
theorem kV_X2_unload : Cond.selects RX2 yX2_unload yX2_unload ∈ lw_good := kp 3 (by decide +kernel) (by decide +kernel)
theorem kV_X0_isThere : Cond.selects RX0 yX0_isThere yX0_isThere ∈ lw_good := kp 4 (by decide +kernel) (by decide +kernel)
theorem kV_X2_reapAndPayBack : Cond.selects RX2 yX2_reapAndPayBack yX2_reapAndPayBack ∈ lw_good := kp 5 (by decide +kernel) (by decide +kernel)
theorem kV_X2_trade : Cond.selects RX2 yX2_trade yX2_trade ∈ lw_good := kp 6 (by decide +kernel) (by decide +kernel)
theorem kV_X4_lessen : Cond.selects RX4 yX4_lessen yX4_lessen ∈ lw_good := kp 7 (by decide +kernel) (by decide +kernel)
theorem kV_X4_cut : Cond.selects RX4 yX4_cut yX4_cut ∈ lw_good := kp 8 (by decide +kernel) (by decide +kernel)
theorem kV_X2_ageStores : Cond.selects RX2 yX2_ageStores yX2_ageStores ∈ lw_good := kp 9 (by decide +kernel) (by decide +kernel)
theorem kV_X7_roadAt : Cond.selects RX7 yX7_roadAt yX7_roadAt ∈ lw_good := kp 10 (by decide +kernel) (by decide +kernel)
theorem kV_X7_movable : Cond.selects RX7 yX7_movable yX7_movable ∈ lw_good := kp 11 (by decide +kernel) (by decide +kernel)
theorem kV_X7_takenByRoad : Cond.selects RX7 yX7_takenByRoad yX7_takenByRoad ∈ lw_good := kp 12 (by decide +kernel) (by decide +kernel)
theorem kV_X8_push : Cond.selects RX8 yX8_push yX8_push ∈ lw_good := kp 13 (by decide +kernel) (by decide +kernel)
theorem kV_X8_reads : Cond.selects RX8 yX8_reads yX8_reads ∈ lw_good := kp 14 (by decide +kernel) (by decide +kernel)
theorem kV_X8_at : Cond.selects RX8 yX8_at yX8_at ∈ lw_good := kp 15 (by decide +kernel) (by decide +kernel)
theorem kV_X8_isTown : Cond.selects RX8 yX8_isTown yX8_isTown ∈ lw_good := kp 16 (by decide +kernel) (by decide +kernel)
theorem kV_X8_goesBy : Cond.selects RX8 yX8_goesBy yX8_goesBy ∈ lw_good := kp 17 (by decide +kernel) (by decide +kernel)
theorem kV_X8_cartsCome : Cond.selects RX8 yX8_cartsCome yX8_cartsCome ∈ lw_good := kp 18 (by decide +kernel) (by decide +kernel)
theorem kV_X8_space : Cond.selects RX8 yX8_space yX8_space ∈ lw_good := kp 19 (by decide +kernel) (by decide +kernel)
theorem kV_X8_trueIn : Cond.selects RX8 yX8_trueIn yX8_trueIn ∈ lw_good := kp 20 (by decide +kernel) (by decide +kernel)
theorem kV_X8_comes : Cond.selects RX8 yX8_comes yX8_comes ∈ lw_good := kp 21 (by decide +kernel) (by decide +kernel)
theorem kV_X8_harvests : Cond.selects RX8 yX8_harvests yX8_harvests ∈ lw_good := kp 22 (by decide +kernel) (by decide +kernel)
theorem kV_X8_trades : Cond.selects RX8 yX8_trades yX8_trades ∈ lw_good := kp 23 (by decide +kernel) (by decide +kernel)
theorem kV_X8_price : Cond.selects RX8 yX8_price yX8_price ∈ lw_good := kp 24 (by decide +kernel) (by decide +kernel)
theorem kV_X8_takes : Cond.selects RX8 yX8_takes yX8_takes ∈ lw_good := kp 25 (by decide +kernel) (by decide +kernel)
theorem kV_X8_goes : Cond.selects RX8 yX8_goes yX8_goes ∈ lw_good := kp 26 (by decide +kernel) (by decide +kernel)
theorem kV_X8_spoils : Cond.selects RX8 yX8_spoils yX8_spoils ∈ lw_good := kp 27 (by decide +kernel) (by decide +kernel)
theorem kV_X8_turns : Cond.selects RX8 yX8_turns yX8_turns ∈ lw_good := kp 28 (by decide +kernel) (by decide +kernel)
theorem kV_X8_begins : Cond.selects RX8 yX8_begins yX8_begins ∈ lw_good := kp 29 (by decide +kernel) (by decide +kernel)
theorem kV_X8_sends : Cond.selects RX8 yX8_sends yX8_sends ∈ lw_good := kp 30 (by decide +kernel) (by decide +kernel)
theorem kV_X8_bookIn : Cond.selects RX8 yX8_bookIn yX8_bookIn ∈ lw_good := kp 31 (by decide +kernel) (by decide +kernel)
theorem kV_X8_copies : Cond.selects RX8 yX8_copies yX8_copies ∈ lw_good := kp 32 (by decide +kernel) (by decide +kernel)
theorem kV_X8_goesOn : Cond.selects RX8 yX8_goesOn yX8_goesOn ∈ lw_good := kp 33 (by decide +kernel) (by decide +kernel)
theorem kV_X8_hungerIn : Cond.selects RX8 yX8_hungerIn yX8_hungerIn ∈ lw_good := kp 34 (by decide +kernel) (by decide +kernel)
theorem kU_X0 : ∀ w ∈ u_ws RX0 TX0 4, w ∈ lw_good := by decide +kernel
theorem kU_X1 : ∀ w ∈ u_ws RX1 TX1 2, w ∈ lw_good := by decide +kernel
theorem kU_X2 : ∀ w ∈ u_ws RX2 TX2 4, w ∈ lw_good := by decide +kernel
theorem kU_X3 : ∀ w ∈ u_ws RX3 TX3 5, w ∈ lw_good := by decide +kernel
theorem kU_X4 : ∀ w ∈ u_ws RX4 TX4 8, w ∈ lw_good := by decide +kernel
theorem kU_X5 : ∀ w ∈ u_ws RX5 TX5 2, w ∈ lw_good := by decide +kernel
theorem kU_X6 : ∀ w ∈ u_ws RX6 TX6 10, w ∈ lw_good := by decide +kernel
theorem kU_X7 : ∀ w ∈ u_ws RX7 TX7 5, w ∈ lw_good := by decide +kernel
theorem kU_X8 : ∀ w ∈ u_ws RX8 TX8 34, w ∈ lw_good := by decide +kernel
theorem kU_Jx4a65c : ∀ w ∈ u_ws RJx4a65c TJx4a65c 3, w ∈ lw_good := by decide +kernel
theorem goodV {own : String} {idx : Nat} {y : MethodName} {cc : ByteArray} {nL : Nat} {ret : Option FieldType} (h1 : Cond.methodLink own idx y ∈ lw_good) (h2 : Cond.instanceMethod y ∈ lw_good) (h3 : Cond.selects y.cls y y ∈ lw_good) (h4 : Cond.initialized y.cls ∈ lw_good) (h5 : Cond.code y cc nL ret ∈ lw_good) : GoodIn lw_good (wsV own idx y.cls y (wz y cc nL ret)) := by
  intro w hw
  have : w ∈ lw_good := by
    simp only [wsV, wz, List.mem_append, List.mem_cons, List.not_mem_nil, or_false] at hw
    rcases hw with (rfl | rfl | rfl | rfl) | rfl | h
    all_goals first | assumption
  exact lw_good_all w this
theorem goodS {own : String} {idx : Nat} {y : MethodName} {cc : ByteArray} {nL : Nat} {ret : Option FieldType} (h1 : Cond.methodLink own idx y ∈ lw_good) (h2 : Cond.static y ∈ lw_good) (h4 : Cond.initialized y.cls ∈ lw_good) (h5 : Cond.code y cc nL ret ∈ lw_good) : GoodIn lw_good (va_wsS own idx y (wz y cc nL ret)) := by
  intro w hw
  have : w ∈ lw_good := by
    simp only [va_wsS, wz, List.mem_append, List.mem_cons, List.not_mem_nil, or_false] at hw
    rcases hw with (rfl | rfl | rfl) | rfl | h
    all_goals first | assumption
  exact lw_good_all w this
theorem goodI {y : MethodName} {cc : ByteArray} {nL : Nat} {ret : Option FieldType} (h5 : Cond.code y cc nL ret ∈ lw_good) : GoodIn lw_good (wz y cc nL ret) := by
  intro w hw
  have : w ∈ lw_good := by
    simp only [wz, List.mem_cons] at hw
    rcases hw with rfl | h
    all_goals first | assumption
  exact lw_good_all w this
end
section
/-! worlds as lists: parts, joins, other orders -/
theorem wP_iff {D : va_G} {cl : List vw_C} {ws : va_W} {H : Heap} : va_P D cl ws H ↔ ∀ q ∈ ws, va_at D cl q H := by
  constructor
  · intro h q hq
    obtain ⟨k, hk⟩ := List.mem_iff_getElem?.mp hq
    exact h k q hk
  · intro h k q hq
    exact h q (List.mem_of_getElem? hq)
theorem wD_iff {A : Nat → Prop} {ws : va_W} : va_D A ws ↔ (ws.map Prod.fst).Nodup ∧ ∀ q ∈ ws, A q.1 := by
  constructor
  · rintro ⟨h1, h2⟩
    refine ⟨?_, fun q hq => ?_⟩
    · refine List.pairwise_iff_getElem.mpr ?_
      intro i j hi hj hij e
      simp only [List.length_map] at hi hj
      simp only [List.getElem_map] at e
      have := h1 i j _ _ (List.getElem?_eq_getElem hi) (List.getElem?_eq_getElem hj) e
      omega
    · obtain ⟨k, hk⟩ := List.mem_iff_getElem?.mp hq
      exact h2 k q hk
  · rintro ⟨h1, h2⟩
    refine ⟨?_, fun k q hq => h2 q (List.mem_of_getElem? hq)⟩
    intro i j p q hp hq e
    obtain ⟨hi, ei⟩ := List.getElem?_eq_some_iff.mp hp
    obtain ⟨hj, ej⟩ := List.getElem?_eq_some_iff.mp hq
    have h3 := List.pairwise_iff_getElem.mp h1
    rcases Nat.lt_trichotomy i j with h | h | h
    · exact absurd (by rw [List.getElem_map, List.getElem_map, ei, ej]; exact e) (h3 i j (by simpa using hi) (by simpa using hj) h)
    · exact h
    · exact absurd (by rw [List.getElem_map, List.getElem_map, ei, ej]; exact e.symm) (h3 j i (by simpa using hj) (by simpa using hi) h)
theorem wA_iff {ws : va_W} {sz q : Nat} : va_A ws sz q ↔ q ∈ ws.map Prod.fst ∨ sz ≤ q := by
  constructor
  · rintro (⟨k, e, h⟩ | h)
    · exact Or.inl (List.mem_map.mpr ⟨_, List.mem_of_getElem? h, rfl⟩)
    · exact Or.inr h
  · rintro (h | h)
    · obtain ⟨p, hp, rfl⟩ := List.mem_map.mp h
      obtain ⟨k, hk⟩ := List.mem_iff_getElem?.mp hp
      exact Or.inl ⟨k, p.2, hk⟩
    · exact Or.inr h
theorem wP_perm {D : va_G} {cl : List vw_C} {ws ws' : va_W} {H : Heap} (h : ws.Perm ws') (p : va_P D cl ws H) : va_P D cl ws' H := wP_iff.mpr (fun q hq => wP_iff.mp p q (h.mem_iff.mpr hq))
theorem wD_perm {A : Nat → Prop} {ws ws' : va_W} (h : ws.Perm ws') (p : va_D A ws) : va_D A ws' := by
  have := wD_iff.mp p
  exact wD_iff.mpr ⟨(h.map Prod.fst).nodup_iff.mp this.1, fun q hq => this.2 q (h.mem_iff.mpr hq)⟩
/-- a part of a world goes into a call and comes back as another: the rest is as it was -/
theorem w_join {A0 : Nat → Prop} {D : va_G} {cl : List vw_C} {WA wc WB w1 : va_W} {H H1 : Heap} (hP : va_P D cl (WA ++ wc ++ WB) H) (hD : va_D A0 (WA ++ wc ++ WB)) (hk : ∀ q : Nat, q < H.size → ¬ va_A wc H.size q → H1[q]? = H[q]?) (hF : ∀ q, va_A wc H.size q → A0 q) (hP1 : va_P D cl w1 H1) (hD1 : va_D (va_A wc H.size) w1) :
    va_P D cl (WA ++ w1 ++ WB) H1 ∧ va_D A0 (WA ++ w1 ++ WB) := by
  have p := wP_iff.mp hP
  obtain ⟨d1, d2⟩ := wD_iff.mp hD
  have p1 := wP_iff.mp hP1
  obtain ⟨e1, e2⟩ := wD_iff.mp hD1
  simp only [List.map_append, List.nodup_append] at d1
  obtain ⟨⟨dA, dc, dAc⟩, dB, dAB⟩ := d1
  have lt : ∀ q ∈ WA ++ wc ++ WB, q.1 < H.size := fun q hq => (p q hq).lt
  have offA : ∀ q ∈ WA, ¬ va_A wc H.size q.1 := by
    intro q hq h
    rcases wA_iff.mp h with h | h
    · exact dAc q.1 (List.mem_map.mpr ⟨q, hq, rfl⟩) q.1 h rfl
    · exact absurd (lt q (by simp [hq])) (by omega)
  have offB : ∀ q ∈ WB, ¬ va_A wc H.size q.1 := by
    intro q hq h
    rcases wA_iff.mp h with h | h
    · exact dAB q.1 (List.mem_append.mpr (Or.inr h)) q.1 (List.mem_map.mpr ⟨q, hq, rfl⟩) rfl
    · exact absurd (lt q (by simp [hq])) (by omega)
  have out : ∀ q : Nat × va_E, q ∈ w1 → va_A wc H.size q.1 := e2
  refine ⟨wP_iff.mpr ?_, wD_iff.mpr ⟨?_, ?_⟩⟩
  · intro q hq
    simp only [List.mem_append] at hq
    rcases hq with (hq | hq) | hq
    · exact (p q (by simp [hq])).kept (hk _ (lt q (by simp [hq])) (offA q hq))
    · exact p1 q hq
    · exact (p q (by simp [hq])).kept (hk _ (lt q (by simp [hq])) (offB q hq))
  · simp only [List.map_append, List.nodup_append]
    refine ⟨⟨dA, e1, ?_⟩, dB, ?_⟩
    · intro a ha b hb e
      obtain ⟨qa, h1, rfl⟩ := List.mem_map.mp ha
      obtain ⟨qb, h2, rfl⟩ := List.mem_map.mp hb
      exact offA qa h1 (e ▸ out qb h2)
    · intro a ha b hb e
      obtain ⟨qb, h2, rfl⟩ := List.mem_map.mp hb
      rcases List.mem_append.mp ha with ha | ha
      · exact dAB a (List.mem_append.mpr (Or.inl ha)) qb.1 hb e
      · obtain ⟨qa, h1, rfl⟩ := List.mem_map.mp ha
        exact offB qb h2 (e ▸ out qa h1)
  · intro q hq
    simp only [List.mem_append] at hq
    rcases hq with (hq | hq) | hq
    · exact d2 q (by simp [hq])
    · exact hF _ (out q hq)
    · exact d2 q (by simp [hq])
section VHEAP
variable {G : GG} {X : CX} {my : MethodName} {cc : ByteArray} {mL : Nat} {mr : Option FieldType} {R : Room} {A : Nat → Prop} {Q : State → Prop} {kc kn : Nat} {ws : va_W} {lv : List (Nat × Value)} {pc : Nat} {rest : List Value}
theorem V.wd {ws' : va_W} (h : ws = ws') (k : V G X my cc mL mr R A Q kc kn ws' lv pc rest) : V G X my cc mL mr R A Q kc kn ws lv pc rest := h ▸ k
theorem V.perm {ws' : va_W} (h : ws.Perm ws') (k : V G X my cc mL mr R A Q kc kn ws' lv pc rest) : V G X my cc mL mr R A Q kc kn ws lv pc rest := fun H locs ls ok hl hP hD hS => k H locs ls ok hl (wP_perm h hP) (wD_perm h hD) hS
theorem V.to {st : List Value} {lv' : List (Nat × Value)} {pc' : Nat} (h1 : lv = lv') (h2 : rest = st) (h3 : pc = pc') (k : V G X my cc mL mr R A Q kc kn ws lv' pc' st) : V G X my cc mL mr R A Q kc kn ws lv pc rest := h1 ▸ h2 ▸ h3 ▸ k
theorem V.topi {x : Int32} (k : ∀ y : Int32, y = x → V G X my cc mL mr R A Q kc kn ws lv pc (.int y :: rest)) : V G X my cc mL mr R A Q kc kn ws lv pc (.int x :: rest) := k x rfl
theorem V.topl {x : Int64} (k : ∀ y : Int64, y = x → V G X my cc mL mr R A Q kc kn ws lv pc (.long y :: rest)) : V G X my cc mL mr R A Q kc kn ws lv pc (.long x :: rest) := k x rfl
theorem V.ei {x y : Int32} (h : x = y) (k : V G X my cc mL mr R A Q kc kn ws lv pc (.int y :: rest)) : V G X my cc mL mr R A Q kc kn ws lv pc (.int x :: rest) := h ▸ k
theorem V.el {x y : Int64} (h : x = y) (k : V G X my cc mL mr R A Q kc kn ws lv pc (.long y :: rest)) : V G X my cc mL mr R A Q kc kn ws lv pc (.long x :: rest) := h ▸ k
theorem V.widen {k2 n2 : Nat} (h1 : kc ≤ k2) (h2 : kn ≤ n2) (k : V G X my cc mL mr R A Q k2 n2 ws lv pc rest) : V G X my cc mL mr R A Q kc kn ws lv pc rest := fun H locs ls ok hl hP hD hS => W.widen h1 h2 (k H locs ls ok hl hP hD hS)
theorem V.fewer {lv' : List (Nat × Value)} (h : ∀ q ∈ lv', q ∈ lv) (k : V G X my cc mL mr R A Q kc kn ws lv' pc rest) : V G X my cc mL mr R A Q kc kn ws lv pc rest := fun H locs ls ok hl hP hD hS => k H locs ls ok ⟨hl.1, hl.2.1, fun q hq => hl.2.2 q (h q hq)⟩ hP hD hS
theorem V.lcmp {x y : Int64} (hdg : decode cc pc = .ok (.lcmp, 1)) (k : V G X my cc mL mr R A Q kc kn ws lv (pc + 1) (.int (lg_cmp x y) :: rest)) : V G X my cc mL mr R A Q kc kn ws lv pc (.long y :: .long x :: rest) := fun H locs ls ok hl hP hD hS => W.lcmp ok.1 ok.2.1 hdg (k H locs ls ok hl hP hD hS)
theorem V.lc_lt {x y : Int64} {off : Int} {tgt : Nat} (h0 : decode cc pc = .ok (.lcmp, 1)) (hdg : decode cc (pc + 1) = .ok (.ifCond .lt off, 3)) (ht : ((pc + 1 : Nat) : Int) + off = (tgt : Int)) (kt : x < y → V G X my cc mL mr R A Q kc kn ws lv tgt rest) (kf : ¬ x < y → V G X my cc mL mr R A Q kc kn ws lv (pc + 1 + 3) rest) : V G X my cc mL mr R A Q kc kn ws lv pc (.long y :: .long x :: rest) := V.lcmp h0 (V.if_lt hdg ht (fun h => kt ((lg_cmp_lt x y).mp h)) (fun h => kf (fun z => h ((lg_cmp_lt x y).mpr z))))
theorem V.lc_gt {x y : Int64} {off : Int} {tgt : Nat} (h0 : decode cc pc = .ok (.lcmp, 1)) (hdg : decode cc (pc + 1) = .ok (.ifCond .gt off, 3)) (ht : ((pc + 1 : Nat) : Int) + off = (tgt : Int)) (kt : y < x → V G X my cc mL mr R A Q kc kn ws lv tgt rest) (kf : ¬ y < x → V G X my cc mL mr R A Q kc kn ws lv (pc + 1 + 3) rest) : V G X my cc mL mr R A Q kc kn ws lv pc (.long y :: .long x :: rest) := V.lcmp h0 (V.if_gt hdg ht (fun h => kt ((lg_cmp_gt x y).mp h)) (fun h => kf (fun z => h ((lg_cmp_gt x y).mpr z))))
theorem V.lc_eq {x y : Int64} {off : Int} {tgt : Nat} (h0 : decode cc pc = .ok (.lcmp, 1)) (hdg : decode cc (pc + 1) = .ok (.ifCond .eq off, 3)) (ht : ((pc + 1 : Nat) : Int) + off = (tgt : Int)) (kt : x = y → V G X my cc mL mr R A Q kc kn ws lv tgt rest) (kf : ¬ x = y → V G X my cc mL mr R A Q kc kn ws lv (pc + 1 + 3) rest) : V G X my cc mL mr R A Q kc kn ws lv pc (.long y :: .long x :: rest) := V.lcmp h0 (V.if_eq hdg ht (fun h => kt ((lg_cmp_eq x y).mp h)) (fun h => kf (fun z => h ((lg_cmp_eq x y).mpr z))))
theorem V.lc_ge {x y : Int64} {off : Int} {tgt : Nat} (h0 : decode cc pc = .ok (.lcmp, 1)) (hdg : decode cc (pc + 1) = .ok (.ifCond .ge off, 3)) (ht : ((pc + 1 : Nat) : Int) + off = (tgt : Int)) (kt : y ≤ x → V G X my cc mL mr R A Q kc kn ws lv tgt rest) (kf : ¬ y ≤ x → V G X my cc mL mr R A Q kc kn ws lv (pc + 1 + 3) rest) : V G X my cc mL mr R A Q kc kn ws lv pc (.long y :: .long x :: rest) := V.lcmp h0 (V.if_ge hdg ht (fun h => kt ((lg_cmp_ge x y).mp h)) (fun h => kf (fun z => h ((lg_cmp_ge x y).mpr z))))
theorem V.lc_le {x y : Int64} {off : Int} {tgt : Nat} (h0 : decode cc pc = .ok (.lcmp, 1)) (hdg : decode cc (pc + 1) = .ok (.ifCond .le off, 3)) (ht : ((pc + 1 : Nat) : Int) + off = (tgt : Int)) (kt : x ≤ y → V G X my cc mL mr R A Q kc kn ws lv tgt rest) (kf : ¬ x ≤ y → V G X my cc mL mr R A Q kc kn ws lv (pc + 1 + 3) rest) : V G X my cc mL mr R A Q kc kn ws lv pc (.long y :: .long x :: rest) := V.lcmp h0 (V.if_le hdg ht (fun h => kt ((lg_cmp_le x y).mp h)) (fun h => kf (fun z => h ((lg_cmp_le x y).mpr z))))
theorem V.lc_ne {x y : Int64} {off : Int} {tgt : Nat} (h0 : decode cc pc = .ok (.lcmp, 1)) (hdg : decode cc (pc + 1) = .ok (.ifCond .ne off, 3)) (ht : ((pc + 1 : Nat) : Int) + off = (tgt : Int)) (kt : ¬ x = y → V G X my cc mL mr R A Q kc kn ws lv tgt rest) (kf : x = y → V G X my cc mL mr R A Q kc kn ws lv (pc + 1 + 3) rest) : V G X my cc mL mr R A Q kc kn ws lv pc (.long y :: .long x :: rest) := V.lcmp h0 (V.if_ne hdg ht (fun h => kt (fun z => h ((lg_cmp_eq x y).mpr z))) (fun h => kf ((lg_cmp_eq x y).mp h)))
theorem V.get {C ref : String} {T : u_T} {N ci index a : Nat} {fs : List Value} {v : Value} (q0 k : Nat) (he : ws[q0]? = some (a, .inr (ci, fs))) (hc : vwCl[ci]? = some (C, T, N)) (hv : fs[k]? = some v) (hin : ∀ w ∈ u_ws C T N, w ∈ lw_good) (hk : k < N) (hlink : Cond.fieldLink my.cls index ref (T k).2.1 (T k).2.2.1 ∈ lw_good) (href : (T k).1 = ref) (hdg : decode cc pc = .ok (.getfield index, 3)) (kk : V G X my cc mL mr R A Q kc kn ws lv (pc + 3) (v :: rest)) : V G X my cc mL mr R A Q kc kn ws lv pc (.ref a :: rest) := fun H locs ls ok hl hP hD hS => va_get (D := G.1) ok.1 ok.2.1 ok.2.2.2.2.1 hin ok.2.2.2.1 ok.2.2.2.2.2.1.1 hP q0 he hc k hk (ok.2.2.2.2.1 _ hlink) (fun x h => href ▸ h) hv hdg (kk H locs ls ok hl hP hD hS)
theorem V.put {C ref : String} {T : u_T} {N ci index a : Nat} {fs : List Value} {v : Value} {ws' : va_W} {ty : FieldType} {ty0 : Nat → FieldType} (q0 k : Nat) (he : ws[q0]? = some (a, .inr (ci, fs))) (hc : vwCl[ci]? = some (C, T, N)) (hw : ws.set q0 (a, .inr (ci, fs.set k v)) = ws') (hin : ∀ w ∈ u_ws C T N, w ∈ lw_good) (hty : ∀ k, k < N → parseFieldDescriptor (T k).2.2.1 = some (ty0 k)) (hnm : ∀ a, a < N → ∀ b, b < N → a ≠ b → (T a).2.1 ≠ (T b).2.1) (hk : k < N) (hlink : Cond.fieldLink my.cls index ref (T k).2.1 (T k).2.2.1 ∈ lw_good) (href : (T k).1 = ref) (hfin : (T k).2.2.2 = false) (hd : ty0 k = ty) (hn : narrow ty v = v) (hfit : fits ty v = true) (hl : k < fs.length) (hdg : decode cc pc = .ok (.putfield index, 3)) (kk : V G X my cc mL mr R A Q kc kn ws' lv (pc + 3) rest) : V G X my cc mL mr R A Q kc kn ws lv pc (v :: .ref a :: rest) := fun H locs ls ok hl0 hP hD hS => va_put (D := G.1) ok.1 ok.2.1 ok.2.2.2.2.1 hin ty0 hty hnm ok.2.2.2.1 ok.2.2.2.2.2.1.1 hP hD hS q0 he hc k hk (ok.2.2.2.2.1 _ hlink) (fun x h => href ▸ h) hfin (by rw [hty k hk, hd]) hn hfit hl hdg (fun H1 locs1 p1 d1 s1 => kk H1 locs1 ls ok hl0 (hw ▸ p1) (hw ▸ d1) s1)
theorem V.putF {C ref : String} {T : u_T} {N ci index a : Nat} {fs : List Value} {v : Value} {ws' : va_W} {ty : FieldType} {ty0 : Nat → FieldType} (q0 k : Nat) (he : ws[q0]? = some (a, .inr (ci, fs))) (hc : vwCl[ci]? = some (C, T, N)) (hw : ws.set q0 (a, .inr (ci, fs.set k v)) = ws') (hin : ∀ w ∈ u_ws C T N, w ∈ lw_good) (hty : ∀ k, k < N → parseFieldDescriptor (T k).2.2.1 = some (ty0 k)) (hnm : ∀ a, a < N → ∀ b, b < N → a ≠ b → (T a).2.1 ≠ (T b).2.1) (hk : k < N) (hlink : Cond.fieldLink my.cls index ref (T k).2.1 (T k).2.2.1 ∈ lw_good) (href : (T k).1 = ref) (hfin : (T k).2.2.2 = true) (hi : my.name = "<init>") (hdecl : (T k).1 = my.cls) (hd : ty0 k = ty) (hn : narrow ty v = v) (hfit : fits ty v = true) (hl : k < fs.length) (hdg : decode cc pc = .ok (.putfield index, 3)) (kk : V G X my cc mL mr R A Q kc kn ws' lv (pc + 3) rest) : V G X my cc mL mr R A Q kc kn ws lv pc (v :: .ref a :: rest) := fun H locs ls ok hl0 hP hD hS => va_putF (D := G.1) ok.1 ok.2.1 ok.2.2.2.2.1 hin ty0 hty hnm ok.2.2.2.1 ok.2.2.2.2.2.1.1 hP hD hS q0 he hc k hk (ok.2.2.2.2.1 _ hlink) (fun x h => href ▸ h) hfin (by rw [ok.2.2.2.2.2.2.2.2.2.1]; exact hi) hdecl (by rw [hty k hk, hd]) hn hfit hl hdg (fun H1 locs1 p1 d1 s1 => kk H1 locs1 ls ok hl0 (hw ▸ p1) (hw ▸ d1) s1)
theorem vin {i : Int32} {j n : Nat} (hi : i = nI j) (hj : j < n) (hn : n < 2 ^ 31) : vp_in i n ∧ i.toNatClampNeg = j := by
  subst hi
  exact ⟨vp_in_nI hj hn, nI_clamp (by omega)⟩
theorem V.iald {n a : Nat} {f : Nat → Int32} {i : Int32} (q0 j : Nat) (ha : ws[q0]? = some (a, .inl (gI G, n, .inl f))) (hi : i = nI j) (hj : j < n) (hn : n < 2 ^ 31) (hdg : decode cc pc = .ok (.iaload, 1)) (kk : V G X my cc mL mr R A Q kc kn ws lv (pc + 1) (.int (f j) :: rest)) : V G X my cc mL mr R A Q kc kn ws lv pc (.int i :: .ref a :: rest) := fun H locs ls ok hl hP hD hS => va_iald (D := G.1) ok.1 ok.2.1 ok.2.2.2.2.2.1.1 hP q0 1 ha rfl (vin hi hj hn).1 hdg (by rw [(vin hi hj hn).2]; exact kk H locs ls ok hl hP hD hS)
theorem V.bald {n a : Nat} {f : Nat → Int32} {i : Int32} (q0 j : Nat) (ha : ws[q0]? = some (a, .inl (gB G, n, .inl f))) (hi : i = nI j) (hj : j < n) (hn : n < 2 ^ 31) (hdg : decode cc pc = .ok (.baload, 1)) (kk : V G X my cc mL mr R A Q kc kn ws lv (pc + 1) (.int (f j) :: rest)) : V G X my cc mL mr R A Q kc kn ws lv pc (.int i :: .ref a :: rest) := fun H locs ls ok hl hP hD hS => va_bald (D := G.1) ok.1 ok.2.1 ok.2.2.2.2.2.1.1 hP q0 0 ha rfl (vin hi hj hn).1 hdg (by rw [(vin hi hj hn).2]; exact kk H locs ls ok hl hP hD hS)
theorem V.zald {n a : Nat} {f : Nat → Int32} {i : Int32} (q0 j : Nat) (ha : ws[q0]? = some (a, .inl (gZ G, n, .inl f))) (hi : i = nI j) (hj : j < n) (hn : n < 2 ^ 31) (hdg : decode cc pc = .ok (.baload, 1)) (kk : V G X my cc mL mr R A Q kc kn ws lv (pc + 1) (.int (f j) :: rest)) : V G X my cc mL mr R A Q kc kn ws lv pc (.int i :: .ref a :: rest) := fun H locs ls ok hl hP hD hS => va_zald (D := G.1) ok.1 ok.2.1 ok.2.2.2.2.2.1.1 hP q0 3 ha rfl (vin hi hj hn).1 hdg (by rw [(vin hi hj hn).2]; exact kk H locs ls ok hl hP hD hS)
theorem V.lald {n a : Nat} {f : Nat → Int64} {i : Int32} (q0 j : Nat) (ha : ws[q0]? = some (a, .inl (gJ G, n, .inr (.inl f)))) (hi : i = nI j) (hj : j < n) (hn : n < 2 ^ 31) (hdg : decode cc pc = .ok (.laload, 1)) (kk : V G X my cc mL mr R A Q kc kn ws lv (pc + 1) (.long (f j) :: rest)) : V G X my cc mL mr R A Q kc kn ws lv pc (.int i :: .ref a :: rest) := fun H locs ls ok hl hP hD hS => va_lald (D := G.1) ok.1 ok.2.1 ok.2.2.2.2.2.1.1 hP q0 2 ha rfl (vin hi hj hn).1 hdg (by rw [(vin hi hj hn).2]; exact kk H locs ls ok hl hP hD hS)
theorem V.iast {n a : Nat} {f : Nat → Int32} {i : Int32} {x : Int32} {ws' : va_W} (q0 j : Nat) (ha : ws[q0]? = some (a, .inl (gI G, n, .inl f))) (hi : i = nI j) (hj : j < n) (hn : n < 2 ^ 31) (hw : ws.set q0 (a, .inl (gI G, n, .inl (upd f j x))) = ws') (hdg : decode cc pc = .ok (.iastore, 1)) (kk : V G X my cc mL mr R A Q kc kn ws' lv (pc + 1) rest) : V G X my cc mL mr R A Q kc kn ws lv pc (.int x :: .int i :: .ref a :: rest) := fun H locs ls ok hl hP hD hS => va_iast (D := G.1) ok.1 ok.2.1 ok.2.2.2.2.2.1.1 hP hD hS q0 1 ha rfl (vin hi hj hn).1 hdg (fun H1 locs1 p1 d1 s1 => by rw [(vin hi hj hn).2] at p1 d1; exact kk H1 locs1 ls ok hl (hw ▸ p1) (hw ▸ d1) s1)
theorem V.bast {n a : Nat} {f : Nat → Int32} {i : Int32} {x : Int32} {ws' : va_W} (q0 j : Nat) (ha : ws[q0]? = some (a, .inl (gB G, n, .inl f))) (hi : i = nI j) (hj : j < n) (hn : n < 2 ^ 31) (hw : ws.set q0 (a, .inl (gB G, n, .inl (upd f j (vp_nar .byte x)))) = ws') (hdg : decode cc pc = .ok (.bastore, 1)) (kk : V G X my cc mL mr R A Q kc kn ws' lv (pc + 1) rest) : V G X my cc mL mr R A Q kc kn ws lv pc (.int x :: .int i :: .ref a :: rest) := fun H locs ls ok hl hP hD hS => va_bast (D := G.1) ok.1 ok.2.1 ok.2.2.2.2.2.1.1 hP hD hS q0 0 ha rfl (vin hi hj hn).1 hdg (fun H1 locs1 p1 d1 s1 => by rw [(vin hi hj hn).2] at p1 d1; exact kk H1 locs1 ls ok hl (hw ▸ p1) (hw ▸ d1) s1)
theorem V.zast {n a : Nat} {f : Nat → Int32} {i : Int32} {x : Int32} {ws' : va_W} (q0 j : Nat) (ha : ws[q0]? = some (a, .inl (gZ G, n, .inl f))) (hi : i = nI j) (hj : j < n) (hn : n < 2 ^ 31) (hw : ws.set q0 (a, .inl (gZ G, n, .inl (upd f j (vp_nar .boolean x)))) = ws') (hdg : decode cc pc = .ok (.bastore, 1)) (kk : V G X my cc mL mr R A Q kc kn ws' lv (pc + 1) rest) : V G X my cc mL mr R A Q kc kn ws lv pc (.int x :: .int i :: .ref a :: rest) := fun H locs ls ok hl hP hD hS => va_zast (D := G.1) ok.1 ok.2.1 ok.2.2.2.2.2.1.1 hP hD hS q0 3 ha rfl (vin hi hj hn).1 hdg (fun H1 locs1 p1 d1 s1 => by rw [(vin hi hj hn).2] at p1 d1; exact kk H1 locs1 ls ok hl (hw ▸ p1) (hw ▸ d1) s1)
theorem V.last {n a : Nat} {f : Nat → Int64} {i : Int32} {x : Int64} {ws' : va_W} (q0 j : Nat) (ha : ws[q0]? = some (a, .inl (gJ G, n, .inr (.inl f)))) (hi : i = nI j) (hj : j < n) (hn : n < 2 ^ 31) (hw : ws.set q0 (a, .inl (gJ G, n, .inr (.inl (vp_updL f j x)))) = ws') (hdg : decode cc pc = .ok (.lastore, 1)) (kk : V G X my cc mL mr R A Q kc kn ws' lv (pc + 1) rest) : V G X my cc mL mr R A Q kc kn ws lv pc (.long x :: .int i :: .ref a :: rest) := fun H locs ls ok hl hP hD hS => va_last (D := G.1) ok.1 ok.2.1 ok.2.2.2.2.2.1.1 hP hD hS q0 2 ha rfl (vin hi hj hn).1 hdg (fun H1 locs1 p1 d1 s1 => by rw [(vin hi hj hn).2] at p1 d1; exact kk H1 locs1 ls ok hl (hw ▸ p1) (hw ▸ d1) s1)
theorem V.alen {cA : ClassId} {a : Nat} {x : vp_A} {ty : FieldType} {v : Int32} (q0 t0 : Nat) (ha : ws[q0]? = some (a, .inl (cA, x))) (ht : (tg G)[t0]? = some (cA, ty)) (hv : Int32.ofNat x.1 = v) (hdg : decode cc pc = .ok (.arraylength, 1)) (kk : V G X my cc mL mr R A Q kc kn ws lv (pc + 1) (.int v :: rest)) : V G X my cc mL mr R A Q kc kn ws lv pc (.ref a :: rest) := fun H locs ls ok hl hP hD hS => va_alen (D := G.1) ok.1 ok.2.1 ok.2.2.2.2.2.1.1 hP q0 t0 ha ht hv hdg (kk H locs ls ok hl hP hD hS)
theorem V.objInit {idx a : Nat} (hlink : Cond.methodLink my.cls idx objectInit ∈ lw_good) (hdg : decode cc pc = .ok (.invokespecial idx, 3)) (hf : 1 ≤ R.frames) (hs : (rest.map fun v => v.category).sum + 12 ≤ R.locals) (kk : V G X my cc mL mr R A Q kc kn ws lv (pc + 3) rest) : V G X my cc mL mr R A Q kc kn ws lv pc (.ref a :: rest) := fun H locs ls ok hl hP hD hS => W.objInit ok.1 ok.2.1 ok.2.2.2.1 (ok.2.2.2.2.1 _ hlink) (ok.2.2.2.2.1 _ kI_objectInit) (ok.2.2.2.2.1 _ kC_objectInit) rfl (by rw [ok.2.2.1]; exact hl.1) rfl hdg hf (by show 2 * 0 + _ + 12 ≤ _; omega) (kk H locs ls ok hl hP hD hS)
theorem V.new {C : String} {T : u_T} {N ci index : Nat} {fs : List Value} {ty : Nat → FieldType} (hc : vwCl[ci]? = some (C, T, N)) (hin : ∀ w ∈ u_ws C T N, w ∈ lw_good) (hty : ∀ k, k < N → parseFieldDescriptor (T k).2.2.1 = some (ty k)) (hcl : Cond.classLink my.cls index C ∈ lw_good) (hinst : Cond.instantiable C N ∈ lw_good) (hini : Cond.initialized C ∈ lw_good) (hfs : ∀ j, j < N → defaultValue (ty j) = vp_V fs j) (h1 : kc + 1 ≤ R.cells) (h2 : kn + N ≤ R.slots) (hdg : decode cc pc = .ok (.new index, 3)) (kk : ∀ q : Nat, V G X my cc mL mr R A Q (kc + 1) (kn + N) (ws ++ [(q, .inr (ci, fs))]) lv (pc + 3) (.ref q :: rest)) : V G X my cc mL mr R A Q kc kn ws lv pc rest := fun H locs ls ok hl hP hD hS => va_new (D := G.1) ok.1 ok.2.1 ok.2.2.2.2.1 hin ty hty ok.2.2.2.1 (ok.2.2.2.2.1 _ hcl) (ok.2.2.2.2.1 _ hinst) (ok.2.2.2.2.1 _ hini) ok.2.2.2.2.2.1.1 hP hD hS ok.2.2.2.2.2.2.1 hc hfs h1 h2 hdg (fun q H1 p1 d1 s1 => kk q H1 locs ls ok hl p1 d1 s1)
theorem V.newa {atype : ArrayType} {n : Int32} {N : Nat} {ty : FieldType} {cA : ClassId} {a0 : vp_A} (harr : Cond.arrayClass (newarray.typeOf atype) ∈ lw_good) (hty : newarray.typeOf atype = ty) (hcA : ∀ U : State, gN G U → U.vm.findClass ("[" ++ ty.toString) = some cA) (hra : ∀ (U : State) (c : ClassId), va_RA U c ty → U.vm.findClass ("[" ++ ty.toString) = some c) (ha : ∀ c : ClassId, vp_cell c a0 = arrV c N (fun _ => defaultValue ty)) (hn : ¬ n < 0) (hN : n.toNatClampNeg = N) (hb : N * componentBytes ty ≤ 536870912) (h1 : kc + 1 ≤ R.cells) (h2 : kn + N ≤ R.slots) (hdg : decode cc pc = .ok (.newarray atype, 2)) (kk : ∀ q : Nat, V G X my cc mL mr R A Q (kc + 1) (kn + N) (ws ++ [(q, .inl (cA, a0))]) lv (pc + 2) (.ref q :: rest)) : V G X my cc mL mr R A Q kc kn ws lv pc (.int n :: rest) := by
  intro H locs ls ok hl hP hD hS
  refine va_newa (D := G.1) ok.1 ok.2.1 (ok.2.2.2.2.1 _ harr) hty ok.2.2.2.2.2.1.1 hP hD hS ok.2.2.2.2.2.2.1 ha hn hN hb h1 h2 hdg (fun q cB H1 hK p1 d1 s1 => ?_)
  have e : cB = cA := by
    have e1 := hra _ _ (hK.2 (tg G).length (cB, ty) (by simp)).2
    have e2 := hcA _ ok.2.2.2.2.2.1.2.1
    exact Option.some.inj (e1.symm.trans e2)
  subst e
  exact kk q H1 locs ls ok hl p1 d1 s1
end VHEAP
end
section
section VCALL
variable {G : GG} {X : CX} {my : MethodName} {cc : ByteArray} {mL : Nat} {mr : Option FieldType} {R : Room} {A : Nat → Prop} {Q : State → Prop} {kc kn : Nat} {ws : va_W} {lv : List (Nat × Value)} {pc : Nat} {rest : List Value}
theorem V.iret {S : Type} {wf : S → va_W} {rv : S → Option Value} {post : S → Prop} {v : Int32} (u : S) (hr : mr = some .int) (hv : rv u = some (.int v)) (hp : post u) (hw : wf u = ws) (h1 : kc ≤ R.cells) (h2 : kn ≤ R.slots) (hdg : decode cc pc = .ok (.ireturn, 1)) : V G X my cc mL mr R A (MZ G X R A wf rv post) kc kn ws lv pc [.int v] := by
  intro H locs ls ok hl hP hD hS
  refine W.widen h1 h2 ?_
  exact W.iret ok.1 ok.2.1 (ok.2.2.2.2.2.2.2.2.1.trans hr) (fun t ht hW => ⟨⟨u, by rw [hv], hp, by rw [hw, ht]; exact hP, by rw [hw]; exact hD⟩, hS.F ht⟩) hS.2.2 hdg ok.2.2.2.2.2.2.2.1
theorem V.zret {S : Type} {wf : S → va_W} {rv : S → Option Value} {post : S → Prop} {v : Int32} (u : S) (hr : mr = some .boolean) (hb : narrow .boolean (.int v) = .int v) (hv : rv u = some (.int v)) (hp : post u) (hw : wf u = ws) (h1 : kc ≤ R.cells) (h2 : kn ≤ R.slots) (hdg : decode cc pc = .ok (.ireturn, 1)) : V G X my cc mL mr R A (MZ G X R A wf rv post) kc kn ws lv pc [.int v] := by
  intro H locs ls ok hl hP hD hS
  refine W.widen h1 h2 ?_
  exact W.zret ok.1 ok.2.1 (ok.2.2.2.2.2.2.2.2.1.trans hr) hb (fun t ht hW => ⟨⟨u, by rw [hv], hp, by rw [hw, ht]; exact hP, by rw [hw]; exact hD⟩, hS.F ht⟩) hS.2.2 hdg ok.2.2.2.2.2.2.2.1
theorem V.lret {S : Type} {wf : S → va_W} {rv : S → Option Value} {post : S → Prop} {v : Int64} (u : S) (hr : mr = some .long) (hv : rv u = some (.long v)) (hp : post u) (hw : wf u = ws) (h1 : kc ≤ R.cells) (h2 : kn ≤ R.slots) (hdg : decode cc pc = .ok (.lreturn, 1)) : V G X my cc mL mr R A (MZ G X R A wf rv post) kc kn ws lv pc [.long v] := by
  intro H locs ls ok hl hP hD hS
  refine W.widen h1 h2 ?_
  exact W.lret ok.1 ok.2.1 (ok.2.2.2.2.2.2.2.2.1.trans hr) (fun t ht hW => ⟨⟨u, by rw [hv], hp, by rw [hw, ht]; exact hP, by rw [hw]; exact hD⟩, hS.F ht⟩) hS.2.2 hdg ok.2.2.2.2.2.2.2.1
theorem V.vret {S : Type} {wf : S → va_W} {rv : S → Option Value} {post : S → Prop} (u : S) (hr : mr = none) (hv : rv u = none) (hp : post u) (hw : wf u = ws) (h1 : kc ≤ R.cells) (h2 : kn ≤ R.slots) (hdg : decode cc pc = .ok (.return_, 1)) : V G X my cc mL mr R A (MZ G X R A wf rv post) kc kn ws lv pc [] := by
  intro H locs ls ok hl hP hD hS
  refine W.widen h1 h2 ?_
  exact W.vret ok.1 ok.2.1 (ok.2.2.2.2.2.2.2.2.1.trans hr) (fun t ht hW => ⟨⟨u, by rw [hv], hp, by rw [hw, ht]; exact hP, by rw [hw]; exact hD⟩, hS.F ht⟩) hS.2.2 hdg ok.2.2.2.2.2.2.2.1
theorem V.aret {S : Type} {wf : S → va_W} {rv : S → Option Value} {post : S → Prop} {v : Value} {rt : FieldType} (u : S) (hr : mr = some rt) (hrt : (∃ n, rt = .object n) ∨ ∃ t, rt = .array t) (hva : v = .null ∨ ∃ a, v = .ref a) (hv : rv u = some v) (hp : post u) (hw : wf u = ws) (h1 : kc ≤ R.cells) (h2 : kn ≤ R.slots) (hdg : decode cc pc = .ok (.areturn, 1)) : V G X my cc mL mr R A (MZ G X R A wf rv post) kc kn ws lv pc [v] := by
  intro H locs ls ok hl hP hD hS
  refine W.widen h1 h2 ?_
  exact W.aret ok.1 ok.2.1 (ok.2.2.2.2.2.2.2.2.1.trans hr) hrt hva (fun t ht hW => ⟨⟨u, by rw [hv], hp, by rw [hw, ht]; exact hP, by rw [hw]; exact hD⟩, hS.F ht⟩) hS.2.2 hdg ok.2.2.2.2.2.2.2.1
/-- what a call asks of the world -/
theorem Ct_blind {av : List Value} {sz : Nat} {wc : va_W} : FrameBlind (va_Pc av (fun U => U.heap.size = sz ∧ va_P G.1 vwCl wc U.heap ∧ gK G U ∧ G.2.2 (va_A wc sz) U U.heap ∧ va_D (fun _ => True) wc)) := by
  rintro a U g mk ⟨q0, q1, qP, qK, qE, qD⟩
  exact ⟨q0, q1, qP, gK.moved (u := U) (U := U.calling g mk a) (Vm.Alike.refl U.vm) qK, qK.2.2 _ _ U (U.calling g mk a) _ _ (Vm.Alike.refl U.vm) (fun _ h => h) (fun _ _ _ => rfl) qE, qD⟩
theorem Ct_pre {wc WA WB : va_W} {av : List Value} {H : Heap} {locs : List Loc} (ok : okX G X my cc mL mr A) (hP : va_P G.1 vwCl (WA ++ wc ++ WB) H) (hD : va_D A (WA ++ wc ++ WB)) (hS : va_S A X.2.2.2.1.heap H locs) (U : State) (hU : U.heap = H) (hW : X.2.2.2.1.WarmedH U.vm) :
    va_Pc av (fun U => U.heap.size = H.size ∧ va_P G.1 vwCl wc U.heap ∧ gK G U ∧ G.2.2 (va_A wc H.size) U U.heap ∧ va_D (fun _ => True) wc) av.toArray U := by
  have d := wD_iff.mp hD
  have hF : ∀ q, va_A wc H.size q → A q := fun q h => by
    rcases wA_iff.mp h with h | h
    · obtain ⟨p, hp, rfl⟩ := List.mem_map.mp h
      exact d.2 p (by simp [hp])
    · exact ok.2.2.2.2.2.2.1 q (Nat.le_trans hS.1 h)
  refine ⟨rfl, by rw [hU], by rw [hU]; exact wP_iff.mpr (fun q hq => wP_iff.mp hP q (by simp [hq])), gK.moved hW.alike ok.2.2.2.2.2.1, ?_, wD_iff.mpr ⟨?_, fun _ _ => trivial⟩⟩
  · exact ok.2.2.2.2.2.1.2.2 A (va_A wc H.size) X.2.2.2.1 U X.2.2.2.1.heap U.heap hW.alike hF (fun a h1 h2 => by rw [hU]; exact hS.2.1 a h1 h2) ok.2.2.2.2.2.2.2.2.2.2
  · have := d.1
    simp only [List.map_append, List.nodup_append] at this
    exact this.1.2.1
theorem Ct_free {wc WA WB : va_W} {H : Heap} {locs : List Loc} (ok : okX G X my cc mL mr A) (hD : va_D A (WA ++ wc ++ WB)) (hS : va_S A X.2.2.2.1.heap H locs) : ∀ q, va_A wc H.size q → A q := fun q h => by
  have d := wD_iff.mp hD
  rcases wA_iff.mp h with h | h
  · obtain ⟨p, hp, rfl⟩ := List.mem_map.mp h
    exact d.2 p (by simp [hp])
  · exact ok.2.2.2.2.2.2.1 q (Nat.le_trans hS.1 h)
/-- the end of a call, by the contract's own end -/
theorem V_end {S : Type} {wf : S → va_W} {rv : S → Option Value} {post : S → Prop} {wc WA WB : va_W} {mc ms : Nat} {st0 : List Value} {a : Array Value} {H : Heap} {locs : List Loc} {ls : Array Slot} (ok : okX G X my cc mL mr A) (hl : lv_has ls mL lv) (hP : va_P G.1 vwCl (WA ++ wc ++ WB) H) (hD : va_D A (WA ++ wc ++ WB)) (hS : va_S A X.2.2.2.1.heap H locs)
    (hr : va_Run X.1 X.2.1 X.2.2.1 R X.2.2.2.1 X.2.2.2.2.1 X.2.2.2.2.2.1 X.2.2.2.2.2.2.1 X.2.2.2.2.2.2.2.1 X.2.2.2.2.2.2.2.2 H locs kc kn mc ms (F0 X.2.2.2.2.1 pc ls st0) rest (CQ G (va_A wc H.size) wf rv post a) (va_A wc H.size))
    (kk : ∀ u : S, post u → V G X my cc mL mr R A Q (kc + mc) (kn + ms) (WA ++ wf u ++ WB) lv (pc + 3) ((rv u).toList ++ rest)) :
    W X.1 X.2.1 X.2.2.1 R X.2.2.2.1 X.2.2.2.2.1 X.2.2.2.2.2.1 X.2.2.2.2.2.2.1 X.2.2.2.2.2.2.2.1 X.2.2.2.2.2.2.2.2 H locs kc kn Q (F0 X.2.2.2.2.1 pc ls st0) := by
  intro T hT Y
  obtain ⟨v, st₀, t, T', L, h0, X', hL, e1, e2, ⟨⟨u, hv, hp, hb, hd⟩, hz, hk⟩, st⟩ := hr T hT Y
  obtain ⟨rfl⟩ : v = rv u := by injection hv
  rw [h0] at hz hk
  have hF := Ct_free ok hD hS
  have hk1 : ∀ q : Nat, q < H.size → ¬ va_A wc H.size q → T'.heap[q]? = H[q]? := fun q h1 h2 => by rw [e1]; exact hk q h1 h2
  obtain ⟨jP, jD⟩ := w_join hP hD hk1 hF (by rw [e1]; exact hb) hd
  obtain ⟨t2, a1, b1⟩ := kk u hp T'.heap (locs ++ L) ls ok hl jP jD ⟨Nat.le_trans hS.1 (by rw [e1]; exact hz), fun q h1 h2 => by rw [hk1 q (Nat.lt_of_lt_of_le h1 hS.1) (fun z => h2 (hF q z))]; exact hS.2.1 q h1 h2, fun q hq => by
      rcases List.mem_append.mp hq with h | h
      · exact hS.2.2 q h
      · exact hF _ (hL q h)⟩ T' rfl X'
  exact ⟨t2, st t2 a1, b1⟩
abbrev descOk (y : MethodName) (n : Nat) : Prop := y.cls ≠ "java/lang/invoke/MethodHandle" ∧ y.cls ≠ "java/lang/invoke/VarHandle" ∧ (parseMethodDescriptor y.desc).map (fun d => d.parameters.length) = some n
abbrev roomOk (R rm : Room) (nL : Nat) : Prop := rm.frames + 1 ≤ R.frames ∧ 8 + (nL + 11) + rm.locals ≤ R.locals
theorem V.callV {y2 : MethodName} {cc2 : ByteArray} {nL2 : Nat} {ret2 : Option FieldType} {rm2 : Room} {b idx : Nat} {As st : List Value} {wc : va_W} {S : Type} {wf2 : S → va_W} {rv2 : S → Option Value} {post2 : S → Prop} {r : vw_C} {fs : List Value} (hC : Ct X.2.1 G y2 cc2 nL2 ret2 rm2 (.ref b :: As) wc wf2 rv2 post2) (WA WB : va_W) (rest : List Value) (q0 ci : Nat) (hw : ws = WA ++ wc ++ WB) (hst : st = As.reverse ++ .ref b :: rest) (ho : wc[q0]? = some (b, .inr (ci, fs))) (hc : vwCl[ci]? = some r) (hr : r.1 = y2.cls) (hg : GoodIn lw_good (wsV my.cls idx y2.cls y2 (wz y2 cc2 nL2 ret2))) (hd : descOk y2 As.length) (hR : roomOk R rm2 nL2) (hs : (rest.map fun v => v.category).sum ≤ 8) (hdg : decode cc pc = .ok (.invokevirtual idx, 3)) (hf : kc + rm2.cells ≤ R.cells ∧ kn + rm2.slots ≤ R.slots)
    (kk : ∀ u : S, post2 u → V G X my cc mL mr R A Q (kc + rm2.cells) (kn + rm2.slots) (WA ++ wf2 u ++ WB) lv (pc + 3) ((rv2 u).toList ++ rest)) : V G X my cc mL mr R A Q kc kn ws lv pc st := by
  subst hw; subst hst
  intro H locs ls ok hl hP hD hS
  have hPc : va_P G.1 vwCl wc H := wP_iff.mpr (fun q hq => wP_iff.mp hP q (by simp [hq]))
  refine V_end (a := (Value.ref b :: As).toArray) ok hl hP hD hS ?_ kk
  exact va_runV (As := As) (rest := rest) ⟨ok.1, ok.2.1, ok.2.2.1, ok.2.2.2.1, ok.2.2.2.2.1⟩ (hC H.size) (cwV As.length ok.2.2.2.2.1 hg rfl rfl rfl ⟨rfl, hd⟩ hR) ⟨Ct_blind, hr ▸ va_recv ok.2.2.2.2.2.1.1 hPc hc ho, fun U hU hW => Ct_pre ok hP hD hS U hU hW⟩ rfl rfl hl.1 rfl (lv_room hs) hdg hf
theorem V.callS {y2 : MethodName} {cc2 : ByteArray} {nL2 : Nat} {ret2 : Option FieldType} {rm2 : Room} {idx : Nat} {As st : List Value} {wc : va_W} {S : Type} {wf2 : S → va_W} {rv2 : S → Option Value} {post2 : S → Prop} (hC : Ct X.2.1 G y2 cc2 nL2 ret2 rm2 As wc wf2 rv2 post2) (WA WB : va_W) (rest : List Value) (hw : ws = WA ++ wc ++ WB) (hst : st = As.reverse ++ rest) (hg : GoodIn lw_good (va_wsS my.cls idx y2 (wz y2 cc2 nL2 ret2))) (hd : descOk y2 As.length) (hR : roomOk R rm2 nL2) (hs : (rest.map fun v => v.category).sum ≤ 8) (hdg : decode cc pc = .ok (.invokestatic idx, 3)) (hf : kc + rm2.cells ≤ R.cells ∧ kn + rm2.slots ≤ R.slots)
    (kk : ∀ u : S, post2 u → V G X my cc mL mr R A Q (kc + rm2.cells) (kn + rm2.slots) (WA ++ wf2 u ++ WB) lv (pc + 3) ((rv2 u).toList ++ rest)) : V G X my cc mL mr R A Q kc kn ws lv pc st := by
  subst hw; subst hst
  intro H locs ls ok hl hP hD hS
  refine V_end (a := As.toArray) ok hl hP hD hS ?_ kk
  exact va_runS (As := As) (rest := rest) ⟨ok.1, ok.2.1, ok.2.2.1, ok.2.2.2.1, ok.2.2.2.2.1⟩ (hC H.size) (va_cwS As.length ok.2.2.2.2.1 hg rfl rfl rfl hd hR) ⟨Ct_blind, fun U hU hW => Ct_pre ok hP hD hS U hU hW⟩ rfl rfl hl.1 rfl (lv_room hs) hdg hf
theorem V.callI {y2 : MethodName} {cc2 : ByteArray} {nL2 : Nat} {rm2 : Room} {b idx : Nat} {As st : List Value} {wc : va_W} {S : Type} {wf2 : S → va_W} {rv2 : S → Option Value} {post2 : S → Prop} (hC : Ct X.2.1 G y2 cc2 nL2 none rm2 (.ref b :: As) wc wf2 rv2 post2) (WA WB : va_W) (rest : List Value) (hw : ws = WA ++ wc ++ WB) (hst : st = As.reverse ++ .ref b :: rest) (hcode : Cond.code y2 cc2 nL2 none ∈ lw_good) (hini : Cond.initialized y2.cls ∈ lw_good) (hlink : Cond.methodLink my.cls idx y2 ∈ lw_good) (hinst : Cond.instanceMethod y2 ∈ lw_good) (hy : y2.name = "<init>") (hd : descOk y2 As.length) (hR : roomOk R rm2 nL2) (hs : (rest.map fun v => v.category).sum ≤ 8) (hdg : decode cc pc = .ok (.invokespecial idx, 3)) (hf : kc + rm2.cells ≤ R.cells ∧ kn + rm2.slots ≤ R.slots)
    (kk : ∀ u : S, post2 u → V G X my cc mL mr R A Q (kc + rm2.cells) (kn + rm2.slots) (WA ++ wf2 u ++ WB) lv (pc + 3) ((rv2 u).toList ++ rest)) : V G X my cc mL mr R A Q kc kn ws lv pc st := by
  subst hw; subst hst
  intro H locs ls ok hl hP hD hS
  refine V_end (a := (Value.ref b :: As).toArray) ok hl hP hD hS ?_ kk
  exact va_runI (As := As) (rest := rest) ⟨ok.1, ok.2.1, ok.2.2.1, ok.2.2.2.1, ok.2.2.2.2.1⟩ (hC H.size) (cwI As.length ok.2.2.2.2.1 (goodI hcode) rfl rfl rfl (ok.2.2.2.2.1 _ hini) (ok.2.2.2.2.1 _ hlink) (ok.2.2.2.2.1 _ hinst) hy hd hR) ⟨Ct_blind, fun U hU hW => Ct_pre ok hP hD hS U hU hW⟩ rfl rfl hl.1 rfl (lv_room hs) hdg hf
end VCALL
section VCALL0
variable {G : GG} {X : CX} {my : MethodName} {cc : ByteArray} {mL : Nat} {mr : Option FieldType} {R : Room} {A : Nat → Prop} {Q : State → Prop} {kc kn : Nat} {ws : va_W} {lv : List (Nat × Value)} {pc : Nat}
theorem V.pick {lv' : List (Nat × Value)} {st : List Value} (ks : List Nat) (h : lv_pick lv ks = lv') (k : V G X my cc mL mr R A Q kc kn ws lv' pc st) : V G X my cc mL mr R A Q kc kn ws lv pc st := fun H locs ls ok hl hP hD hS => k H locs ls ok (lv_sub hl ks h) hP hD hS
/-- calls with the whole world -/
theorem V.callV0 {y2 : MethodName} {cc2 : ByteArray} {nL2 : Nat} {ret2 : Option FieldType} {rm2 : Room} {b idx : Nat} {As st : List Value} {S : Type} {wf2 : S → va_W} {rv2 : S → Option Value} {post2 : S → Prop} {r : vw_C} {fs : List Value} (hC : Ct X.2.1 G y2 cc2 nL2 ret2 rm2 (.ref b :: As) ws wf2 rv2 post2) (rest : List Value) (q0 ci : Nat) (hst : st = As.reverse ++ .ref b :: rest) (ho : ws[q0]? = some (b, .inr (ci, fs))) (hc : vwCl[ci]? = some r) (hr : r.1 = y2.cls) (hg : GoodIn lw_good (wsV my.cls idx y2.cls y2 (wz y2 cc2 nL2 ret2))) (hd : descOk y2 As.length) (hR : roomOk R rm2 nL2) (hs : (rest.map fun v => v.category).sum ≤ 8) (hdg : decode cc pc = .ok (.invokevirtual idx, 3)) (hf : kc + rm2.cells ≤ R.cells ∧ kn + rm2.slots ≤ R.slots)
    (kk : ∀ u : S, post2 u → V G X my cc mL mr R A Q (kc + rm2.cells) (kn + rm2.slots) (wf2 u) lv (pc + 3) ((rv2 u).toList ++ rest)) : V G X my cc mL mr R A Q kc kn ws lv pc st :=
  V.callV hC [] [] rest q0 ci (List.append_nil _).symm hst ho hc hr hg hd hR hs hdg hf (fun u hu => V.wd (List.append_nil _) (kk u hu))
theorem V.callS0 {y2 : MethodName} {cc2 : ByteArray} {nL2 : Nat} {ret2 : Option FieldType} {rm2 : Room} {idx : Nat} {As st : List Value} {S : Type} {wf2 : S → va_W} {rv2 : S → Option Value} {post2 : S → Prop} (hC : Ct X.2.1 G y2 cc2 nL2 ret2 rm2 As ws wf2 rv2 post2) (rest : List Value) (hst : st = As.reverse ++ rest) (hg : GoodIn lw_good (va_wsS my.cls idx y2 (wz y2 cc2 nL2 ret2))) (hd : descOk y2 As.length) (hR : roomOk R rm2 nL2) (hs : (rest.map fun v => v.category).sum ≤ 8) (hdg : decode cc pc = .ok (.invokestatic idx, 3)) (hf : kc + rm2.cells ≤ R.cells ∧ kn + rm2.slots ≤ R.slots)
    (kk : ∀ u : S, post2 u → V G X my cc mL mr R A Q (kc + rm2.cells) (kn + rm2.slots) (wf2 u) lv (pc + 3) ((rv2 u).toList ++ rest)) : V G X my cc mL mr R A Q kc kn ws lv pc st :=
  V.callS hC [] [] rest (List.append_nil _).symm hst hg hd hR hs hdg hf (fun u hu => V.wd (List.append_nil _) (kk u hu))
/-- a static method that touches no cell: called from any world -/
theorem V.callSE {y2 : MethodName} {cc2 : ByteArray} {nL2 : Nat} {ret2 : Option FieldType} {rm2 : Room} {idx : Nat} {As st : List Value} {S : Type} {rv2 : S → Option Value} {post2 : S → Prop} (hC : Ct X.2.1 G y2 cc2 nL2 ret2 rm2 As [] (fun _ => []) rv2 post2) (rest : List Value) (hst : st = As.reverse ++ rest) (hg : GoodIn lw_good (va_wsS my.cls idx y2 (wz y2 cc2 nL2 ret2))) (hd : descOk y2 As.length) (hR : roomOk R rm2 nL2) (hs : (rest.map fun v => v.category).sum ≤ 8) (hdg : decode cc pc = .ok (.invokestatic idx, 3)) (hf : kc + rm2.cells ≤ R.cells ∧ kn + rm2.slots ≤ R.slots)
    (kk : ∀ u : S, post2 u → V G X my cc mL mr R A Q (kc + rm2.cells) (kn + rm2.slots) ws lv (pc + 3) ((rv2 u).toList ++ rest)) : V G X my cc mL mr R A Q kc kn ws lv pc st :=
  V.callS hC [] ws rest rfl hst hg hd hR hs hdg hf (fun u hu => kk u hu)
end VCALL0
end
section
/-! THE REFERENCE: one object and its arrays. I: the arrays of ints, bytes and booleans by the number of the field; J: those of longs; sc: taped, towns, roads -/
def mw (G : GG) (o : Nat) (ad : Nat → Nat) (sc : Int32 × Int32 × Int32) (I : Nat → Nat → Int32) (J : Nat → Nat → Int64) : va_W := [(o, .inr (9, [.ref (ad 0), .int sc.1, .ref (ad 2), .ref (ad 3), .ref (ad 4), .int sc.2.1, .int sc.2.2, .ref (ad 7), .ref (ad 8), .ref (ad 9), .ref (ad 10), .ref (ad 11), .ref (ad 12), .ref (ad 13), .ref (ad 14), .ref (ad 15), .ref (ad 16), .ref (ad 17), .ref (ad 18), .ref (ad 19), .ref (ad 20), .ref (ad 21), .ref (ad 22), .ref (ad 23), .ref (ad 24), .ref (ad 25), .ref (ad 26), .ref (ad 27), .ref (ad 28), .ref (ad 29), .ref (ad 30), .ref (ad 31), .ref (ad 32), .ref (ad 33)])), (ad 0, .inl (gB G, 60, .inl (I 0))), (ad 2, .inl (gI G, 8, .inl (I 2))), (ad 3, .inl (gI G, 8, .inl (I 3))), (ad 4, .inl (gI G, 8, .inl (I 4))), (ad 7, .inl (gI G, 8, .inl (I 7))), (ad 8, .inl (gI G, 8, .inl (I 8))), (ad 9, .inl (gI G, 8, .inl (I 9))), (ad 10, .inl (gI G, 12, .inl (I 10))), (ad 11, .inl (gI G, 12, .inl (I 11))), (ad 12, .inl (gI G, 12, .inl (I 12))), (ad 13, .inl (gI G, 12, .inl (I 13))), (ad 14, .inl (gI G, 12, .inl (I 14))), (ad 15, .inl (gI G, 2, .inl (I 15))), (ad 16, .inl (gJ G, 2, .inr (.inl (J 16)))), (ad 17, .inl (gI G, 2, .inl (I 17))), (ad 18, .inl (gI G, 120, .inl (I 18))), (ad 19, .inl (gI G, 120, .inl (I 19))), (ad 20, .inl (gI G, 120, .inl (I 20))), (ad 21, .inl (gJ G, 16, .inr (.inl (J 21)))), (ad 22, .inl (gI G, 16, .inl (I 22))), (ad 23, .inl (gJ G, 16, .inr (.inl (J 23)))), (ad 24, .inl (gJ G, 16, .inr (.inl (J 24)))), (ad 25, .inl (gJ G, 16, .inr (.inl (J 25)))), (ad 26, .inl (gJ G, 16, .inr (.inl (J 26)))), (ad 27, .inl (gJ G, 16, .inr (.inl (J 27)))), (ad 28, .inl (gJ G, 16, .inr (.inl (J 28)))), (ad 29, .inl (gJ G, 16, .inr (.inl (J 29)))), (ad 30, .inl (gI G, 640, .inl (I 30))), (ad 31, .inl (gI G, 640, .inl (I 31))), (ad 32, .inl (gI G, 640, .inl (I 32))), (ad 33, .inl (gZ G, 640, .inl (I 33)))]
def up2 {α : Type} (I : Nat → Nat → α) (k j : Nat) (x : α) : Nat → Nat → α := fun a => if a = k then (fun b => if b = j then x else I k b) else I a
def upf {α : Type} (I : Nat → α) (k : Nat) (f : α) : Nat → α := fun a => if a = k then f else I a
section MROWS
variable {G : GG} {X : CX} {my : MethodName} {cc : ByteArray} {mL : Nat} {mr : Option FieldType} {R : Room} {A : Nat → Prop} {Q : State → Prop} {kc kn : Nat} {lv : List (Nat × Value)} {pc : Nat} {rest : List Value} {o : Nat} {ad : Nat → Nat} {sc : Int32 × Int32 × Int32} {I : Nat → Nat → Int32} {J : Nat → Nat → Int64}
theorem Mg0 (hm : my.cls = RX8) (hdg : decode cc pc = .ok (.getfield 7, 3)) (kk : V G X my cc mL mr R A Q kc kn (mw G o ad sc I J) lv (pc + 3) (.ref (ad 0) :: rest)) : V G X my cc mL mr R A Q kc kn (mw G o ad sc I J) lv pc (.ref o :: rest) := V.get (ci := 9) (C := RX8) (T := TX8) (N := 34) 0 0 rfl rfl rfl kU_X8 (by decide) (by rw [hm]; exact kF_X8_7) rfl hdg kk
theorem Ml0 {i : Int32} (j : Nat) (hi : i = nI j) (hj : j < 60) (hdg : decode cc pc = .ok (.baload, 1)) (kk : V G X my cc mL mr R A Q kc kn (mw G o ad sc I J) lv (pc + 1) (.int (I 0 j) :: rest)) : V G X my cc mL mr R A Q kc kn (mw G o ad sc I J) lv pc (.int i :: .ref (ad 0) :: rest) := V.bald 1 j rfl hi hj (by decide) hdg kk
theorem Ms0 {i : Int32} {x : Int32} (j : Nat) (hi : i = nI j) (hj : j < 60) (hdg : decode cc pc = .ok (.bastore, 1)) (kk : V G X my cc mL mr R A Q kc kn (mw G o ad sc (up2 I 0 j (vp_nar .byte x)) J) lv (pc + 1) (rest)) : V G X my cc mL mr R A Q kc kn (mw G o ad sc I J) lv pc (.int x :: .int i :: .ref (ad 0) :: rest) := V.bast 1 j rfl hi hj (by decide) rfl hdg kk
theorem Mg1 (hm : my.cls = RX8) (hdg : decode cc pc = .ok (.getfield 110, 3)) (kk : V G X my cc mL mr R A Q kc kn (mw G o ad sc I J) lv (pc + 3) (.int sc.1 :: rest)) : V G X my cc mL mr R A Q kc kn (mw G o ad sc I J) lv pc (.ref o :: rest) := V.get (ci := 9) (C := RX8) (T := TX8) (N := 34) 0 1 rfl rfl rfl kU_X8 (by decide) (by rw [hm]; exact kF_X8_110) rfl hdg kk
theorem Mp1 {x : Int32} (hm : my.cls = RX8) (hdg : decode cc pc = .ok (.putfield 110, 3)) (kk : V G X my cc mL mr R A Q kc kn (mw G o ad (x, sc.2) I J) lv (pc + 3) (rest)) : V G X my cc mL mr R A Q kc kn (mw G o ad sc I J) lv pc (.int x :: .ref o :: rest) := V.put (ci := 9) (C := RX8) (T := TX8) (N := 34) (ty := .int) (ty0 := tyX8) 0 1 rfl rfl rfl kU_X8 tyX8_ok nmX8 (by decide) (by rw [hm]; exact kF_X8_110) rfl rfl rfl rfl rfl (Nat.le_of_ble_eq_true rfl) hdg kk
theorem Mg2 (hm : my.cls = RX8) (hdg : decode cc pc = .ok (.getfield 13, 3)) (kk : V G X my cc mL mr R A Q kc kn (mw G o ad sc I J) lv (pc + 3) (.ref (ad 2) :: rest)) : V G X my cc mL mr R A Q kc kn (mw G o ad sc I J) lv pc (.ref o :: rest) := V.get (ci := 9) (C := RX8) (T := TX8) (N := 34) 0 2 rfl rfl rfl kU_X8 (by decide) (by rw [hm]; exact kF_X8_13) rfl hdg kk
theorem Ml2 {i : Int32} (j : Nat) (hi : i = nI j) (hj : j < 8) (hdg : decode cc pc = .ok (.iaload, 1)) (kk : V G X my cc mL mr R A Q kc kn (mw G o ad sc I J) lv (pc + 1) (.int (I 2 j) :: rest)) : V G X my cc mL mr R A Q kc kn (mw G o ad sc I J) lv pc (.int i :: .ref (ad 2) :: rest) := V.iald 2 j rfl hi hj (by decide) hdg kk
theorem Ms2 {i : Int32} {x : Int32} (j : Nat) (hi : i = nI j) (hj : j < 8) (hdg : decode cc pc = .ok (.iastore, 1)) (kk : V G X my cc mL mr R A Q kc kn (mw G o ad sc (up2 I 2 j x) J) lv (pc + 1) (rest)) : V G X my cc mL mr R A Q kc kn (mw G o ad sc I J) lv pc (.int x :: .int i :: .ref (ad 2) :: rest) := V.iast 2 j rfl hi hj (by decide) rfl hdg kk
theorem Mg3 (hm : my.cls = RX8) (hdg : decode cc pc = .ok (.getfield 17, 3)) (kk : V G X my cc mL mr R A Q kc kn (mw G o ad sc I J) lv (pc + 3) (.ref (ad 3) :: rest)) : V G X my cc mL mr R A Q kc kn (mw G o ad sc I J) lv pc (.ref o :: rest) := V.get (ci := 9) (C := RX8) (T := TX8) (N := 34) 0 3 rfl rfl rfl kU_X8 (by decide) (by rw [hm]; exact kF_X8_17) rfl hdg kk
theorem Ml3 {i : Int32} (j : Nat) (hi : i = nI j) (hj : j < 8) (hdg : decode cc pc = .ok (.iaload, 1)) (kk : V G X my cc mL mr R A Q kc kn (mw G o ad sc I J) lv (pc + 1) (.int (I 3 j) :: rest)) : V G X my cc mL mr R A Q kc kn (mw G o ad sc I J) lv pc (.int i :: .ref (ad 3) :: rest) := V.iald 3 j rfl hi hj (by decide) hdg kk
theorem Ms3 {i : Int32} {x : Int32} (j : Nat) (hi : i = nI j) (hj : j < 8) (hdg : decode cc pc = .ok (.iastore, 1)) (kk : V G X my cc mL mr R A Q kc kn (mw G o ad sc (up2 I 3 j x) J) lv (pc + 1) (rest)) : V G X my cc mL mr R A Q kc kn (mw G o ad sc I J) lv pc (.int x :: .int i :: .ref (ad 3) :: rest) := V.iast 3 j rfl hi hj (by decide) rfl hdg kk
theorem Mg4 (hm : my.cls = RX8) (hdg : decode cc pc = .ok (.getfield 20, 3)) (kk : V G X my cc mL mr R A Q kc kn (mw G o ad sc I J) lv (pc + 3) (.ref (ad 4) :: rest)) : V G X my cc mL mr R A Q kc kn (mw G o ad sc I J) lv pc (.ref o :: rest) := V.get (ci := 9) (C := RX8) (T := TX8) (N := 34) 0 4 rfl rfl rfl kU_X8 (by decide) (by rw [hm]; exact kF_X8_20) rfl hdg kk
theorem Ml4 {i : Int32} (j : Nat) (hi : i = nI j) (hj : j < 8) (hdg : decode cc pc = .ok (.iaload, 1)) (kk : V G X my cc mL mr R A Q kc kn (mw G o ad sc I J) lv (pc + 1) (.int (I 4 j) :: rest)) : V G X my cc mL mr R A Q kc kn (mw G o ad sc I J) lv pc (.int i :: .ref (ad 4) :: rest) := V.iald 4 j rfl hi hj (by decide) hdg kk
theorem Ms4 {i : Int32} {x : Int32} (j : Nat) (hi : i = nI j) (hj : j < 8) (hdg : decode cc pc = .ok (.iastore, 1)) (kk : V G X my cc mL mr R A Q kc kn (mw G o ad sc (up2 I 4 j x) J) lv (pc + 1) (rest)) : V G X my cc mL mr R A Q kc kn (mw G o ad sc I J) lv pc (.int x :: .int i :: .ref (ad 4) :: rest) := V.iast 4 j rfl hi hj (by decide) rfl hdg kk
theorem Mg5 (hm : my.cls = RX8) (hdg : decode cc pc = .ok (.getfield 143, 3)) (kk : V G X my cc mL mr R A Q kc kn (mw G o ad sc I J) lv (pc + 3) (.int sc.2.1 :: rest)) : V G X my cc mL mr R A Q kc kn (mw G o ad sc I J) lv pc (.ref o :: rest) := V.get (ci := 9) (C := RX8) (T := TX8) (N := 34) 0 5 rfl rfl rfl kU_X8 (by decide) (by rw [hm]; exact kF_X8_143) rfl hdg kk
theorem Mp5 {x : Int32} (hm : my.cls = RX8) (hdg : decode cc pc = .ok (.putfield 143, 3)) (kk : V G X my cc mL mr R A Q kc kn (mw G o ad (sc.1, x, sc.2.2) I J) lv (pc + 3) (rest)) : V G X my cc mL mr R A Q kc kn (mw G o ad sc I J) lv pc (.int x :: .ref o :: rest) := V.put (ci := 9) (C := RX8) (T := TX8) (N := 34) (ty := .int) (ty0 := tyX8) 0 5 rfl rfl rfl kU_X8 tyX8_ok nmX8 (by decide) (by rw [hm]; exact kF_X8_143) rfl rfl rfl rfl rfl (Nat.le_of_ble_eq_true rfl) hdg kk
theorem Mg6 (hm : my.cls = RX8) (hdg : decode cc pc = .ok (.getfield 152, 3)) (kk : V G X my cc mL mr R A Q kc kn (mw G o ad sc I J) lv (pc + 3) (.int sc.2.2 :: rest)) : V G X my cc mL mr R A Q kc kn (mw G o ad sc I J) lv pc (.ref o :: rest) := V.get (ci := 9) (C := RX8) (T := TX8) (N := 34) 0 6 rfl rfl rfl kU_X8 (by decide) (by rw [hm]; exact kF_X8_152) rfl hdg kk
theorem Mp6 {x : Int32} (hm : my.cls = RX8) (hdg : decode cc pc = .ok (.putfield 152, 3)) (kk : V G X my cc mL mr R A Q kc kn (mw G o ad (sc.1, sc.2.1, x) I J) lv (pc + 3) (rest)) : V G X my cc mL mr R A Q kc kn (mw G o ad sc I J) lv pc (.int x :: .ref o :: rest) := V.put (ci := 9) (C := RX8) (T := TX8) (N := 34) (ty := .int) (ty0 := tyX8) 0 6 rfl rfl rfl kU_X8 tyX8_ok nmX8 (by decide) (by rw [hm]; exact kF_X8_152) rfl rfl rfl rfl rfl (Nat.le_of_ble_eq_true rfl) hdg kk
theorem Mg7 (hm : my.cls = RX8) (hdg : decode cc pc = .ok (.getfield 23, 3)) (kk : V G X my cc mL mr R A Q kc kn (mw G o ad sc I J) lv (pc + 3) (.ref (ad 7) :: rest)) : V G X my cc mL mr R A Q kc kn (mw G o ad sc I J) lv pc (.ref o :: rest) := V.get (ci := 9) (C := RX8) (T := TX8) (N := 34) 0 7 rfl rfl rfl kU_X8 (by decide) (by rw [hm]; exact kF_X8_23) rfl hdg kk
theorem Ml7 {i : Int32} (j : Nat) (hi : i = nI j) (hj : j < 8) (hdg : decode cc pc = .ok (.iaload, 1)) (kk : V G X my cc mL mr R A Q kc kn (mw G o ad sc I J) lv (pc + 1) (.int (I 7 j) :: rest)) : V G X my cc mL mr R A Q kc kn (mw G o ad sc I J) lv pc (.int i :: .ref (ad 7) :: rest) := V.iald 5 j rfl hi hj (by decide) hdg kk
theorem Ms7 {i : Int32} {x : Int32} (j : Nat) (hi : i = nI j) (hj : j < 8) (hdg : decode cc pc = .ok (.iastore, 1)) (kk : V G X my cc mL mr R A Q kc kn (mw G o ad sc (up2 I 7 j x) J) lv (pc + 1) (rest)) : V G X my cc mL mr R A Q kc kn (mw G o ad sc I J) lv pc (.int x :: .int i :: .ref (ad 7) :: rest) := V.iast 5 j rfl hi hj (by decide) rfl hdg kk
theorem Mg8 (hm : my.cls = RX8) (hdg : decode cc pc = .ok (.getfield 26, 3)) (kk : V G X my cc mL mr R A Q kc kn (mw G o ad sc I J) lv (pc + 3) (.ref (ad 8) :: rest)) : V G X my cc mL mr R A Q kc kn (mw G o ad sc I J) lv pc (.ref o :: rest) := V.get (ci := 9) (C := RX8) (T := TX8) (N := 34) 0 8 rfl rfl rfl kU_X8 (by decide) (by rw [hm]; exact kF_X8_26) rfl hdg kk
theorem Ml8 {i : Int32} (j : Nat) (hi : i = nI j) (hj : j < 8) (hdg : decode cc pc = .ok (.iaload, 1)) (kk : V G X my cc mL mr R A Q kc kn (mw G o ad sc I J) lv (pc + 1) (.int (I 8 j) :: rest)) : V G X my cc mL mr R A Q kc kn (mw G o ad sc I J) lv pc (.int i :: .ref (ad 8) :: rest) := V.iald 6 j rfl hi hj (by decide) hdg kk
theorem Ms8 {i : Int32} {x : Int32} (j : Nat) (hi : i = nI j) (hj : j < 8) (hdg : decode cc pc = .ok (.iastore, 1)) (kk : V G X my cc mL mr R A Q kc kn (mw G o ad sc (up2 I 8 j x) J) lv (pc + 1) (rest)) : V G X my cc mL mr R A Q kc kn (mw G o ad sc I J) lv pc (.int x :: .int i :: .ref (ad 8) :: rest) := V.iast 6 j rfl hi hj (by decide) rfl hdg kk
theorem Mg9 (hm : my.cls = RX8) (hdg : decode cc pc = .ok (.getfield 29, 3)) (kk : V G X my cc mL mr R A Q kc kn (mw G o ad sc I J) lv (pc + 3) (.ref (ad 9) :: rest)) : V G X my cc mL mr R A Q kc kn (mw G o ad sc I J) lv pc (.ref o :: rest) := V.get (ci := 9) (C := RX8) (T := TX8) (N := 34) 0 9 rfl rfl rfl kU_X8 (by decide) (by rw [hm]; exact kF_X8_29) rfl hdg kk
theorem Ml9 {i : Int32} (j : Nat) (hi : i = nI j) (hj : j < 8) (hdg : decode cc pc = .ok (.iaload, 1)) (kk : V G X my cc mL mr R A Q kc kn (mw G o ad sc I J) lv (pc + 1) (.int (I 9 j) :: rest)) : V G X my cc mL mr R A Q kc kn (mw G o ad sc I J) lv pc (.int i :: .ref (ad 9) :: rest) := V.iald 7 j rfl hi hj (by decide) hdg kk
theorem Ms9 {i : Int32} {x : Int32} (j : Nat) (hi : i = nI j) (hj : j < 8) (hdg : decode cc pc = .ok (.iastore, 1)) (kk : V G X my cc mL mr R A Q kc kn (mw G o ad sc (up2 I 9 j x) J) lv (pc + 1) (rest)) : V G X my cc mL mr R A Q kc kn (mw G o ad sc I J) lv pc (.int x :: .int i :: .ref (ad 9) :: rest) := V.iast 7 j rfl hi hj (by decide) rfl hdg kk
theorem Mg10 (hm : my.cls = RX8) (hdg : decode cc pc = .ok (.getfield 32, 3)) (kk : V G X my cc mL mr R A Q kc kn (mw G o ad sc I J) lv (pc + 3) (.ref (ad 10) :: rest)) : V G X my cc mL mr R A Q kc kn (mw G o ad sc I J) lv pc (.ref o :: rest) := V.get (ci := 9) (C := RX8) (T := TX8) (N := 34) 0 10 rfl rfl rfl kU_X8 (by decide) (by rw [hm]; exact kF_X8_32) rfl hdg kk
theorem Ml10 {i : Int32} (j : Nat) (hi : i = nI j) (hj : j < 12) (hdg : decode cc pc = .ok (.iaload, 1)) (kk : V G X my cc mL mr R A Q kc kn (mw G o ad sc I J) lv (pc + 1) (.int (I 10 j) :: rest)) : V G X my cc mL mr R A Q kc kn (mw G o ad sc I J) lv pc (.int i :: .ref (ad 10) :: rest) := V.iald 8 j rfl hi hj (by decide) hdg kk
theorem Ms10 {i : Int32} {x : Int32} (j : Nat) (hi : i = nI j) (hj : j < 12) (hdg : decode cc pc = .ok (.iastore, 1)) (kk : V G X my cc mL mr R A Q kc kn (mw G o ad sc (up2 I 10 j x) J) lv (pc + 1) (rest)) : V G X my cc mL mr R A Q kc kn (mw G o ad sc I J) lv pc (.int x :: .int i :: .ref (ad 10) :: rest) := V.iast 8 j rfl hi hj (by decide) rfl hdg kk
theorem Mg11 (hm : my.cls = RX8) (hdg : decode cc pc = .ok (.getfield 35, 3)) (kk : V G X my cc mL mr R A Q kc kn (mw G o ad sc I J) lv (pc + 3) (.ref (ad 11) :: rest)) : V G X my cc mL mr R A Q kc kn (mw G o ad sc I J) lv pc (.ref o :: rest) := V.get (ci := 9) (C := RX8) (T := TX8) (N := 34) 0 11 rfl rfl rfl kU_X8 (by decide) (by rw [hm]; exact kF_X8_35) rfl hdg kk
theorem Ml11 {i : Int32} (j : Nat) (hi : i = nI j) (hj : j < 12) (hdg : decode cc pc = .ok (.iaload, 1)) (kk : V G X my cc mL mr R A Q kc kn (mw G o ad sc I J) lv (pc + 1) (.int (I 11 j) :: rest)) : V G X my cc mL mr R A Q kc kn (mw G o ad sc I J) lv pc (.int i :: .ref (ad 11) :: rest) := V.iald 9 j rfl hi hj (by decide) hdg kk
theorem Ms11 {i : Int32} {x : Int32} (j : Nat) (hi : i = nI j) (hj : j < 12) (hdg : decode cc pc = .ok (.iastore, 1)) (kk : V G X my cc mL mr R A Q kc kn (mw G o ad sc (up2 I 11 j x) J) lv (pc + 1) (rest)) : V G X my cc mL mr R A Q kc kn (mw G o ad sc I J) lv pc (.int x :: .int i :: .ref (ad 11) :: rest) := V.iast 9 j rfl hi hj (by decide) rfl hdg kk
theorem Mg12 (hm : my.cls = RX8) (hdg : decode cc pc = .ok (.getfield 38, 3)) (kk : V G X my cc mL mr R A Q kc kn (mw G o ad sc I J) lv (pc + 3) (.ref (ad 12) :: rest)) : V G X my cc mL mr R A Q kc kn (mw G o ad sc I J) lv pc (.ref o :: rest) := V.get (ci := 9) (C := RX8) (T := TX8) (N := 34) 0 12 rfl rfl rfl kU_X8 (by decide) (by rw [hm]; exact kF_X8_38) rfl hdg kk
theorem Ml12 {i : Int32} (j : Nat) (hi : i = nI j) (hj : j < 12) (hdg : decode cc pc = .ok (.iaload, 1)) (kk : V G X my cc mL mr R A Q kc kn (mw G o ad sc I J) lv (pc + 1) (.int (I 12 j) :: rest)) : V G X my cc mL mr R A Q kc kn (mw G o ad sc I J) lv pc (.int i :: .ref (ad 12) :: rest) := V.iald 10 j rfl hi hj (by decide) hdg kk
theorem Ms12 {i : Int32} {x : Int32} (j : Nat) (hi : i = nI j) (hj : j < 12) (hdg : decode cc pc = .ok (.iastore, 1)) (kk : V G X my cc mL mr R A Q kc kn (mw G o ad sc (up2 I 12 j x) J) lv (pc + 1) (rest)) : V G X my cc mL mr R A Q kc kn (mw G o ad sc I J) lv pc (.int x :: .int i :: .ref (ad 12) :: rest) := V.iast 10 j rfl hi hj (by decide) rfl hdg kk
theorem Mg13 (hm : my.cls = RX8) (hdg : decode cc pc = .ok (.getfield 41, 3)) (kk : V G X my cc mL mr R A Q kc kn (mw G o ad sc I J) lv (pc + 3) (.ref (ad 13) :: rest)) : V G X my cc mL mr R A Q kc kn (mw G o ad sc I J) lv pc (.ref o :: rest) := V.get (ci := 9) (C := RX8) (T := TX8) (N := 34) 0 13 rfl rfl rfl kU_X8 (by decide) (by rw [hm]; exact kF_X8_41) rfl hdg kk
theorem Ml13 {i : Int32} (j : Nat) (hi : i = nI j) (hj : j < 12) (hdg : decode cc pc = .ok (.iaload, 1)) (kk : V G X my cc mL mr R A Q kc kn (mw G o ad sc I J) lv (pc + 1) (.int (I 13 j) :: rest)) : V G X my cc mL mr R A Q kc kn (mw G o ad sc I J) lv pc (.int i :: .ref (ad 13) :: rest) := V.iald 11 j rfl hi hj (by decide) hdg kk
theorem Ms13 {i : Int32} {x : Int32} (j : Nat) (hi : i = nI j) (hj : j < 12) (hdg : decode cc pc = .ok (.iastore, 1)) (kk : V G X my cc mL mr R A Q kc kn (mw G o ad sc (up2 I 13 j x) J) lv (pc + 1) (rest)) : V G X my cc mL mr R A Q kc kn (mw G o ad sc I J) lv pc (.int x :: .int i :: .ref (ad 13) :: rest) := V.iast 11 j rfl hi hj (by decide) rfl hdg kk
theorem Mg14 (hm : my.cls = RX8) (hdg : decode cc pc = .ok (.getfield 44, 3)) (kk : V G X my cc mL mr R A Q kc kn (mw G o ad sc I J) lv (pc + 3) (.ref (ad 14) :: rest)) : V G X my cc mL mr R A Q kc kn (mw G o ad sc I J) lv pc (.ref o :: rest) := V.get (ci := 9) (C := RX8) (T := TX8) (N := 34) 0 14 rfl rfl rfl kU_X8 (by decide) (by rw [hm]; exact kF_X8_44) rfl hdg kk
theorem Ml14 {i : Int32} (j : Nat) (hi : i = nI j) (hj : j < 12) (hdg : decode cc pc = .ok (.iaload, 1)) (kk : V G X my cc mL mr R A Q kc kn (mw G o ad sc I J) lv (pc + 1) (.int (I 14 j) :: rest)) : V G X my cc mL mr R A Q kc kn (mw G o ad sc I J) lv pc (.int i :: .ref (ad 14) :: rest) := V.iald 12 j rfl hi hj (by decide) hdg kk
theorem Ms14 {i : Int32} {x : Int32} (j : Nat) (hi : i = nI j) (hj : j < 12) (hdg : decode cc pc = .ok (.iastore, 1)) (kk : V G X my cc mL mr R A Q kc kn (mw G o ad sc (up2 I 14 j x) J) lv (pc + 1) (rest)) : V G X my cc mL mr R A Q kc kn (mw G o ad sc I J) lv pc (.int x :: .int i :: .ref (ad 14) :: rest) := V.iast 12 j rfl hi hj (by decide) rfl hdg kk
theorem Mg15 (hm : my.cls = RX8) (hdg : decode cc pc = .ok (.getfield 47, 3)) (kk : V G X my cc mL mr R A Q kc kn (mw G o ad sc I J) lv (pc + 3) (.ref (ad 15) :: rest)) : V G X my cc mL mr R A Q kc kn (mw G o ad sc I J) lv pc (.ref o :: rest) := V.get (ci := 9) (C := RX8) (T := TX8) (N := 34) 0 15 rfl rfl rfl kU_X8 (by decide) (by rw [hm]; exact kF_X8_47) rfl hdg kk
theorem Ml15 {i : Int32} (j : Nat) (hi : i = nI j) (hj : j < 2) (hdg : decode cc pc = .ok (.iaload, 1)) (kk : V G X my cc mL mr R A Q kc kn (mw G o ad sc I J) lv (pc + 1) (.int (I 15 j) :: rest)) : V G X my cc mL mr R A Q kc kn (mw G o ad sc I J) lv pc (.int i :: .ref (ad 15) :: rest) := V.iald 13 j rfl hi hj (by decide) hdg kk
theorem Ms15 {i : Int32} {x : Int32} (j : Nat) (hi : i = nI j) (hj : j < 2) (hdg : decode cc pc = .ok (.iastore, 1)) (kk : V G X my cc mL mr R A Q kc kn (mw G o ad sc (up2 I 15 j x) J) lv (pc + 1) (rest)) : V G X my cc mL mr R A Q kc kn (mw G o ad sc I J) lv pc (.int x :: .int i :: .ref (ad 15) :: rest) := V.iast 13 j rfl hi hj (by decide) rfl hdg kk
theorem Mg16 (hm : my.cls = RX8) (hdg : decode cc pc = .ok (.getfield 50, 3)) (kk : V G X my cc mL mr R A Q kc kn (mw G o ad sc I J) lv (pc + 3) (.ref (ad 16) :: rest)) : V G X my cc mL mr R A Q kc kn (mw G o ad sc I J) lv pc (.ref o :: rest) := V.get (ci := 9) (C := RX8) (T := TX8) (N := 34) 0 16 rfl rfl rfl kU_X8 (by decide) (by rw [hm]; exact kF_X8_50) rfl hdg kk
theorem Ml16 {i : Int32} (j : Nat) (hi : i = nI j) (hj : j < 2) (hdg : decode cc pc = .ok (.laload, 1)) (kk : V G X my cc mL mr R A Q kc kn (mw G o ad sc I J) lv (pc + 1) (.long (J 16 j) :: rest)) : V G X my cc mL mr R A Q kc kn (mw G o ad sc I J) lv pc (.int i :: .ref (ad 16) :: rest) := V.lald 14 j rfl hi hj (by decide) hdg kk
theorem Ms16 {i : Int32} {x : Int64} (j : Nat) (hi : i = nI j) (hj : j < 2) (hdg : decode cc pc = .ok (.lastore, 1)) (kk : V G X my cc mL mr R A Q kc kn (mw G o ad sc I (up2 J 16 j x)) lv (pc + 1) (rest)) : V G X my cc mL mr R A Q kc kn (mw G o ad sc I J) lv pc (.long x :: .int i :: .ref (ad 16) :: rest) := V.last 14 j rfl hi hj (by decide) rfl hdg kk
theorem Mg17 (hm : my.cls = RX8) (hdg : decode cc pc = .ok (.getfield 54, 3)) (kk : V G X my cc mL mr R A Q kc kn (mw G o ad sc I J) lv (pc + 3) (.ref (ad 17) :: rest)) : V G X my cc mL mr R A Q kc kn (mw G o ad sc I J) lv pc (.ref o :: rest) := V.get (ci := 9) (C := RX8) (T := TX8) (N := 34) 0 17 rfl rfl rfl kU_X8 (by decide) (by rw [hm]; exact kF_X8_54) rfl hdg kk
theorem Ml17 {i : Int32} (j : Nat) (hi : i = nI j) (hj : j < 2) (hdg : decode cc pc = .ok (.iaload, 1)) (kk : V G X my cc mL mr R A Q kc kn (mw G o ad sc I J) lv (pc + 1) (.int (I 17 j) :: rest)) : V G X my cc mL mr R A Q kc kn (mw G o ad sc I J) lv pc (.int i :: .ref (ad 17) :: rest) := V.iald 15 j rfl hi hj (by decide) hdg kk
theorem Ms17 {i : Int32} {x : Int32} (j : Nat) (hi : i = nI j) (hj : j < 2) (hdg : decode cc pc = .ok (.iastore, 1)) (kk : V G X my cc mL mr R A Q kc kn (mw G o ad sc (up2 I 17 j x) J) lv (pc + 1) (rest)) : V G X my cc mL mr R A Q kc kn (mw G o ad sc I J) lv pc (.int x :: .int i :: .ref (ad 17) :: rest) := V.iast 15 j rfl hi hj (by decide) rfl hdg kk
theorem Mg18 (hm : my.cls = RX8) (hdg : decode cc pc = .ok (.getfield 57, 3)) (kk : V G X my cc mL mr R A Q kc kn (mw G o ad sc I J) lv (pc + 3) (.ref (ad 18) :: rest)) : V G X my cc mL mr R A Q kc kn (mw G o ad sc I J) lv pc (.ref o :: rest) := V.get (ci := 9) (C := RX8) (T := TX8) (N := 34) 0 18 rfl rfl rfl kU_X8 (by decide) (by rw [hm]; exact kF_X8_57) rfl hdg kk
theorem Ml18 {i : Int32} (j : Nat) (hi : i = nI j) (hj : j < 120) (hdg : decode cc pc = .ok (.iaload, 1)) (kk : V G X my cc mL mr R A Q kc kn (mw G o ad sc I J) lv (pc + 1) (.int (I 18 j) :: rest)) : V G X my cc mL mr R A Q kc kn (mw G o ad sc I J) lv pc (.int i :: .ref (ad 18) :: rest) := V.iald 16 j rfl hi hj (by decide) hdg kk
theorem Ms18 {i : Int32} {x : Int32} (j : Nat) (hi : i = nI j) (hj : j < 120) (hdg : decode cc pc = .ok (.iastore, 1)) (kk : V G X my cc mL mr R A Q kc kn (mw G o ad sc (up2 I 18 j x) J) lv (pc + 1) (rest)) : V G X my cc mL mr R A Q kc kn (mw G o ad sc I J) lv pc (.int x :: .int i :: .ref (ad 18) :: rest) := V.iast 16 j rfl hi hj (by decide) rfl hdg kk
theorem Mg19 (hm : my.cls = RX8) (hdg : decode cc pc = .ok (.getfield 60, 3)) (kk : V G X my cc mL mr R A Q kc kn (mw G o ad sc I J) lv (pc + 3) (.ref (ad 19) :: rest)) : V G X my cc mL mr R A Q kc kn (mw G o ad sc I J) lv pc (.ref o :: rest) := V.get (ci := 9) (C := RX8) (T := TX8) (N := 34) 0 19 rfl rfl rfl kU_X8 (by decide) (by rw [hm]; exact kF_X8_60) rfl hdg kk
theorem Ml19 {i : Int32} (j : Nat) (hi : i = nI j) (hj : j < 120) (hdg : decode cc pc = .ok (.iaload, 1)) (kk : V G X my cc mL mr R A Q kc kn (mw G o ad sc I J) lv (pc + 1) (.int (I 19 j) :: rest)) : V G X my cc mL mr R A Q kc kn (mw G o ad sc I J) lv pc (.int i :: .ref (ad 19) :: rest) := V.iald 17 j rfl hi hj (by decide) hdg kk
theorem Ms19 {i : Int32} {x : Int32} (j : Nat) (hi : i = nI j) (hj : j < 120) (hdg : decode cc pc = .ok (.iastore, 1)) (kk : V G X my cc mL mr R A Q kc kn (mw G o ad sc (up2 I 19 j x) J) lv (pc + 1) (rest)) : V G X my cc mL mr R A Q kc kn (mw G o ad sc I J) lv pc (.int x :: .int i :: .ref (ad 19) :: rest) := V.iast 17 j rfl hi hj (by decide) rfl hdg kk
theorem Mg20 (hm : my.cls = RX8) (hdg : decode cc pc = .ok (.getfield 63, 3)) (kk : V G X my cc mL mr R A Q kc kn (mw G o ad sc I J) lv (pc + 3) (.ref (ad 20) :: rest)) : V G X my cc mL mr R A Q kc kn (mw G o ad sc I J) lv pc (.ref o :: rest) := V.get (ci := 9) (C := RX8) (T := TX8) (N := 34) 0 20 rfl rfl rfl kU_X8 (by decide) (by rw [hm]; exact kF_X8_63) rfl hdg kk
theorem Ml20 {i : Int32} (j : Nat) (hi : i = nI j) (hj : j < 120) (hdg : decode cc pc = .ok (.iaload, 1)) (kk : V G X my cc mL mr R A Q kc kn (mw G o ad sc I J) lv (pc + 1) (.int (I 20 j) :: rest)) : V G X my cc mL mr R A Q kc kn (mw G o ad sc I J) lv pc (.int i :: .ref (ad 20) :: rest) := V.iald 18 j rfl hi hj (by decide) hdg kk
theorem Ms20 {i : Int32} {x : Int32} (j : Nat) (hi : i = nI j) (hj : j < 120) (hdg : decode cc pc = .ok (.iastore, 1)) (kk : V G X my cc mL mr R A Q kc kn (mw G o ad sc (up2 I 20 j x) J) lv (pc + 1) (rest)) : V G X my cc mL mr R A Q kc kn (mw G o ad sc I J) lv pc (.int x :: .int i :: .ref (ad 20) :: rest) := V.iast 18 j rfl hi hj (by decide) rfl hdg kk
theorem Mg21 (hm : my.cls = RX8) (hdg : decode cc pc = .ok (.getfield 66, 3)) (kk : V G X my cc mL mr R A Q kc kn (mw G o ad sc I J) lv (pc + 3) (.ref (ad 21) :: rest)) : V G X my cc mL mr R A Q kc kn (mw G o ad sc I J) lv pc (.ref o :: rest) := V.get (ci := 9) (C := RX8) (T := TX8) (N := 34) 0 21 rfl rfl rfl kU_X8 (by decide) (by rw [hm]; exact kF_X8_66) rfl hdg kk
theorem Ml21 {i : Int32} (j : Nat) (hi : i = nI j) (hj : j < 16) (hdg : decode cc pc = .ok (.laload, 1)) (kk : V G X my cc mL mr R A Q kc kn (mw G o ad sc I J) lv (pc + 1) (.long (J 21 j) :: rest)) : V G X my cc mL mr R A Q kc kn (mw G o ad sc I J) lv pc (.int i :: .ref (ad 21) :: rest) := V.lald 19 j rfl hi hj (by decide) hdg kk
theorem Ms21 {i : Int32} {x : Int64} (j : Nat) (hi : i = nI j) (hj : j < 16) (hdg : decode cc pc = .ok (.lastore, 1)) (kk : V G X my cc mL mr R A Q kc kn (mw G o ad sc I (up2 J 21 j x)) lv (pc + 1) (rest)) : V G X my cc mL mr R A Q kc kn (mw G o ad sc I J) lv pc (.long x :: .int i :: .ref (ad 21) :: rest) := V.last 19 j rfl hi hj (by decide) rfl hdg kk
theorem Mg22 (hm : my.cls = RX8) (hdg : decode cc pc = .ok (.getfield 69, 3)) (kk : V G X my cc mL mr R A Q kc kn (mw G o ad sc I J) lv (pc + 3) (.ref (ad 22) :: rest)) : V G X my cc mL mr R A Q kc kn (mw G o ad sc I J) lv pc (.ref o :: rest) := V.get (ci := 9) (C := RX8) (T := TX8) (N := 34) 0 22 rfl rfl rfl kU_X8 (by decide) (by rw [hm]; exact kF_X8_69) rfl hdg kk
theorem Ml22 {i : Int32} (j : Nat) (hi : i = nI j) (hj : j < 16) (hdg : decode cc pc = .ok (.iaload, 1)) (kk : V G X my cc mL mr R A Q kc kn (mw G o ad sc I J) lv (pc + 1) (.int (I 22 j) :: rest)) : V G X my cc mL mr R A Q kc kn (mw G o ad sc I J) lv pc (.int i :: .ref (ad 22) :: rest) := V.iald 20 j rfl hi hj (by decide) hdg kk
theorem Ms22 {i : Int32} {x : Int32} (j : Nat) (hi : i = nI j) (hj : j < 16) (hdg : decode cc pc = .ok (.iastore, 1)) (kk : V G X my cc mL mr R A Q kc kn (mw G o ad sc (up2 I 22 j x) J) lv (pc + 1) (rest)) : V G X my cc mL mr R A Q kc kn (mw G o ad sc I J) lv pc (.int x :: .int i :: .ref (ad 22) :: rest) := V.iast 20 j rfl hi hj (by decide) rfl hdg kk
theorem Mg23 (hm : my.cls = RX8) (hdg : decode cc pc = .ok (.getfield 72, 3)) (kk : V G X my cc mL mr R A Q kc kn (mw G o ad sc I J) lv (pc + 3) (.ref (ad 23) :: rest)) : V G X my cc mL mr R A Q kc kn (mw G o ad sc I J) lv pc (.ref o :: rest) := V.get (ci := 9) (C := RX8) (T := TX8) (N := 34) 0 23 rfl rfl rfl kU_X8 (by decide) (by rw [hm]; exact kF_X8_72) rfl hdg kk
theorem Ml23 {i : Int32} (j : Nat) (hi : i = nI j) (hj : j < 16) (hdg : decode cc pc = .ok (.laload, 1)) (kk : V G X my cc mL mr R A Q kc kn (mw G o ad sc I J) lv (pc + 1) (.long (J 23 j) :: rest)) : V G X my cc mL mr R A Q kc kn (mw G o ad sc I J) lv pc (.int i :: .ref (ad 23) :: rest) := V.lald 21 j rfl hi hj (by decide) hdg kk
theorem Ms23 {i : Int32} {x : Int64} (j : Nat) (hi : i = nI j) (hj : j < 16) (hdg : decode cc pc = .ok (.lastore, 1)) (kk : V G X my cc mL mr R A Q kc kn (mw G o ad sc I (up2 J 23 j x)) lv (pc + 1) (rest)) : V G X my cc mL mr R A Q kc kn (mw G o ad sc I J) lv pc (.long x :: .int i :: .ref (ad 23) :: rest) := V.last 21 j rfl hi hj (by decide) rfl hdg kk
theorem Mg24 (hm : my.cls = RX8) (hdg : decode cc pc = .ok (.getfield 75, 3)) (kk : V G X my cc mL mr R A Q kc kn (mw G o ad sc I J) lv (pc + 3) (.ref (ad 24) :: rest)) : V G X my cc mL mr R A Q kc kn (mw G o ad sc I J) lv pc (.ref o :: rest) := V.get (ci := 9) (C := RX8) (T := TX8) (N := 34) 0 24 rfl rfl rfl kU_X8 (by decide) (by rw [hm]; exact kF_X8_75) rfl hdg kk
theorem Ml24 {i : Int32} (j : Nat) (hi : i = nI j) (hj : j < 16) (hdg : decode cc pc = .ok (.laload, 1)) (kk : V G X my cc mL mr R A Q kc kn (mw G o ad sc I J) lv (pc + 1) (.long (J 24 j) :: rest)) : V G X my cc mL mr R A Q kc kn (mw G o ad sc I J) lv pc (.int i :: .ref (ad 24) :: rest) := V.lald 22 j rfl hi hj (by decide) hdg kk
theorem Ms24 {i : Int32} {x : Int64} (j : Nat) (hi : i = nI j) (hj : j < 16) (hdg : decode cc pc = .ok (.lastore, 1)) (kk : V G X my cc mL mr R A Q kc kn (mw G o ad sc I (up2 J 24 j x)) lv (pc + 1) (rest)) : V G X my cc mL mr R A Q kc kn (mw G o ad sc I J) lv pc (.long x :: .int i :: .ref (ad 24) :: rest) := V.last 22 j rfl hi hj (by decide) rfl hdg kk
theorem Mg25 (hm : my.cls = RX8) (hdg : decode cc pc = .ok (.getfield 78, 3)) (kk : V G X my cc mL mr R A Q kc kn (mw G o ad sc I J) lv (pc + 3) (.ref (ad 25) :: rest)) : V G X my cc mL mr R A Q kc kn (mw G o ad sc I J) lv pc (.ref o :: rest) := V.get (ci := 9) (C := RX8) (T := TX8) (N := 34) 0 25 rfl rfl rfl kU_X8 (by decide) (by rw [hm]; exact kF_X8_78) rfl hdg kk
theorem Ml25 {i : Int32} (j : Nat) (hi : i = nI j) (hj : j < 16) (hdg : decode cc pc = .ok (.laload, 1)) (kk : V G X my cc mL mr R A Q kc kn (mw G o ad sc I J) lv (pc + 1) (.long (J 25 j) :: rest)) : V G X my cc mL mr R A Q kc kn (mw G o ad sc I J) lv pc (.int i :: .ref (ad 25) :: rest) := V.lald 23 j rfl hi hj (by decide) hdg kk
theorem Ms25 {i : Int32} {x : Int64} (j : Nat) (hi : i = nI j) (hj : j < 16) (hdg : decode cc pc = .ok (.lastore, 1)) (kk : V G X my cc mL mr R A Q kc kn (mw G o ad sc I (up2 J 25 j x)) lv (pc + 1) (rest)) : V G X my cc mL mr R A Q kc kn (mw G o ad sc I J) lv pc (.long x :: .int i :: .ref (ad 25) :: rest) := V.last 23 j rfl hi hj (by decide) rfl hdg kk
theorem Mg26 (hm : my.cls = RX8) (hdg : decode cc pc = .ok (.getfield 81, 3)) (kk : V G X my cc mL mr R A Q kc kn (mw G o ad sc I J) lv (pc + 3) (.ref (ad 26) :: rest)) : V G X my cc mL mr R A Q kc kn (mw G o ad sc I J) lv pc (.ref o :: rest) := V.get (ci := 9) (C := RX8) (T := TX8) (N := 34) 0 26 rfl rfl rfl kU_X8 (by decide) (by rw [hm]; exact kF_X8_81) rfl hdg kk
theorem Ml26 {i : Int32} (j : Nat) (hi : i = nI j) (hj : j < 16) (hdg : decode cc pc = .ok (.laload, 1)) (kk : V G X my cc mL mr R A Q kc kn (mw G o ad sc I J) lv (pc + 1) (.long (J 26 j) :: rest)) : V G X my cc mL mr R A Q kc kn (mw G o ad sc I J) lv pc (.int i :: .ref (ad 26) :: rest) := V.lald 24 j rfl hi hj (by decide) hdg kk
theorem Ms26 {i : Int32} {x : Int64} (j : Nat) (hi : i = nI j) (hj : j < 16) (hdg : decode cc pc = .ok (.lastore, 1)) (kk : V G X my cc mL mr R A Q kc kn (mw G o ad sc I (up2 J 26 j x)) lv (pc + 1) (rest)) : V G X my cc mL mr R A Q kc kn (mw G o ad sc I J) lv pc (.long x :: .int i :: .ref (ad 26) :: rest) := V.last 24 j rfl hi hj (by decide) rfl hdg kk
theorem Mg27 (hm : my.cls = RX8) (hdg : decode cc pc = .ok (.getfield 84, 3)) (kk : V G X my cc mL mr R A Q kc kn (mw G o ad sc I J) lv (pc + 3) (.ref (ad 27) :: rest)) : V G X my cc mL mr R A Q kc kn (mw G o ad sc I J) lv pc (.ref o :: rest) := V.get (ci := 9) (C := RX8) (T := TX8) (N := 34) 0 27 rfl rfl rfl kU_X8 (by decide) (by rw [hm]; exact kF_X8_84) rfl hdg kk
theorem Ml27 {i : Int32} (j : Nat) (hi : i = nI j) (hj : j < 16) (hdg : decode cc pc = .ok (.laload, 1)) (kk : V G X my cc mL mr R A Q kc kn (mw G o ad sc I J) lv (pc + 1) (.long (J 27 j) :: rest)) : V G X my cc mL mr R A Q kc kn (mw G o ad sc I J) lv pc (.int i :: .ref (ad 27) :: rest) := V.lald 25 j rfl hi hj (by decide) hdg kk
theorem Ms27 {i : Int32} {x : Int64} (j : Nat) (hi : i = nI j) (hj : j < 16) (hdg : decode cc pc = .ok (.lastore, 1)) (kk : V G X my cc mL mr R A Q kc kn (mw G o ad sc I (up2 J 27 j x)) lv (pc + 1) (rest)) : V G X my cc mL mr R A Q kc kn (mw G o ad sc I J) lv pc (.long x :: .int i :: .ref (ad 27) :: rest) := V.last 25 j rfl hi hj (by decide) rfl hdg kk
theorem Mg28 (hm : my.cls = RX8) (hdg : decode cc pc = .ok (.getfield 87, 3)) (kk : V G X my cc mL mr R A Q kc kn (mw G o ad sc I J) lv (pc + 3) (.ref (ad 28) :: rest)) : V G X my cc mL mr R A Q kc kn (mw G o ad sc I J) lv pc (.ref o :: rest) := V.get (ci := 9) (C := RX8) (T := TX8) (N := 34) 0 28 rfl rfl rfl kU_X8 (by decide) (by rw [hm]; exact kF_X8_87) rfl hdg kk
theorem Ml28 {i : Int32} (j : Nat) (hi : i = nI j) (hj : j < 16) (hdg : decode cc pc = .ok (.laload, 1)) (kk : V G X my cc mL mr R A Q kc kn (mw G o ad sc I J) lv (pc + 1) (.long (J 28 j) :: rest)) : V G X my cc mL mr R A Q kc kn (mw G o ad sc I J) lv pc (.int i :: .ref (ad 28) :: rest) := V.lald 26 j rfl hi hj (by decide) hdg kk
theorem Ms28 {i : Int32} {x : Int64} (j : Nat) (hi : i = nI j) (hj : j < 16) (hdg : decode cc pc = .ok (.lastore, 1)) (kk : V G X my cc mL mr R A Q kc kn (mw G o ad sc I (up2 J 28 j x)) lv (pc + 1) (rest)) : V G X my cc mL mr R A Q kc kn (mw G o ad sc I J) lv pc (.long x :: .int i :: .ref (ad 28) :: rest) := V.last 26 j rfl hi hj (by decide) rfl hdg kk
theorem Mg29 (hm : my.cls = RX8) (hdg : decode cc pc = .ok (.getfield 90, 3)) (kk : V G X my cc mL mr R A Q kc kn (mw G o ad sc I J) lv (pc + 3) (.ref (ad 29) :: rest)) : V G X my cc mL mr R A Q kc kn (mw G o ad sc I J) lv pc (.ref o :: rest) := V.get (ci := 9) (C := RX8) (T := TX8) (N := 34) 0 29 rfl rfl rfl kU_X8 (by decide) (by rw [hm]; exact kF_X8_90) rfl hdg kk
theorem Ml29 {i : Int32} (j : Nat) (hi : i = nI j) (hj : j < 16) (hdg : decode cc pc = .ok (.laload, 1)) (kk : V G X my cc mL mr R A Q kc kn (mw G o ad sc I J) lv (pc + 1) (.long (J 29 j) :: rest)) : V G X my cc mL mr R A Q kc kn (mw G o ad sc I J) lv pc (.int i :: .ref (ad 29) :: rest) := V.lald 27 j rfl hi hj (by decide) hdg kk
theorem Ms29 {i : Int32} {x : Int64} (j : Nat) (hi : i = nI j) (hj : j < 16) (hdg : decode cc pc = .ok (.lastore, 1)) (kk : V G X my cc mL mr R A Q kc kn (mw G o ad sc I (up2 J 29 j x)) lv (pc + 1) (rest)) : V G X my cc mL mr R A Q kc kn (mw G o ad sc I J) lv pc (.long x :: .int i :: .ref (ad 29) :: rest) := V.last 27 j rfl hi hj (by decide) rfl hdg kk
theorem Mg30 (hm : my.cls = RX8) (hdg : decode cc pc = .ok (.getfield 93, 3)) (kk : V G X my cc mL mr R A Q kc kn (mw G o ad sc I J) lv (pc + 3) (.ref (ad 30) :: rest)) : V G X my cc mL mr R A Q kc kn (mw G o ad sc I J) lv pc (.ref o :: rest) := V.get (ci := 9) (C := RX8) (T := TX8) (N := 34) 0 30 rfl rfl rfl kU_X8 (by decide) (by rw [hm]; exact kF_X8_93) rfl hdg kk
theorem Ml30 {i : Int32} (j : Nat) (hi : i = nI j) (hj : j < 640) (hdg : decode cc pc = .ok (.iaload, 1)) (kk : V G X my cc mL mr R A Q kc kn (mw G o ad sc I J) lv (pc + 1) (.int (I 30 j) :: rest)) : V G X my cc mL mr R A Q kc kn (mw G o ad sc I J) lv pc (.int i :: .ref (ad 30) :: rest) := V.iald 28 j rfl hi hj (by decide) hdg kk
theorem Ms30 {i : Int32} {x : Int32} (j : Nat) (hi : i = nI j) (hj : j < 640) (hdg : decode cc pc = .ok (.iastore, 1)) (kk : V G X my cc mL mr R A Q kc kn (mw G o ad sc (up2 I 30 j x) J) lv (pc + 1) (rest)) : V G X my cc mL mr R A Q kc kn (mw G o ad sc I J) lv pc (.int x :: .int i :: .ref (ad 30) :: rest) := V.iast 28 j rfl hi hj (by decide) rfl hdg kk
theorem Mg31 (hm : my.cls = RX8) (hdg : decode cc pc = .ok (.getfield 96, 3)) (kk : V G X my cc mL mr R A Q kc kn (mw G o ad sc I J) lv (pc + 3) (.ref (ad 31) :: rest)) : V G X my cc mL mr R A Q kc kn (mw G o ad sc I J) lv pc (.ref o :: rest) := V.get (ci := 9) (C := RX8) (T := TX8) (N := 34) 0 31 rfl rfl rfl kU_X8 (by decide) (by rw [hm]; exact kF_X8_96) rfl hdg kk
theorem Ml31 {i : Int32} (j : Nat) (hi : i = nI j) (hj : j < 640) (hdg : decode cc pc = .ok (.iaload, 1)) (kk : V G X my cc mL mr R A Q kc kn (mw G o ad sc I J) lv (pc + 1) (.int (I 31 j) :: rest)) : V G X my cc mL mr R A Q kc kn (mw G o ad sc I J) lv pc (.int i :: .ref (ad 31) :: rest) := V.iald 29 j rfl hi hj (by decide) hdg kk
theorem Ms31 {i : Int32} {x : Int32} (j : Nat) (hi : i = nI j) (hj : j < 640) (hdg : decode cc pc = .ok (.iastore, 1)) (kk : V G X my cc mL mr R A Q kc kn (mw G o ad sc (up2 I 31 j x) J) lv (pc + 1) (rest)) : V G X my cc mL mr R A Q kc kn (mw G o ad sc I J) lv pc (.int x :: .int i :: .ref (ad 31) :: rest) := V.iast 29 j rfl hi hj (by decide) rfl hdg kk
theorem Mg32 (hm : my.cls = RX8) (hdg : decode cc pc = .ok (.getfield 99, 3)) (kk : V G X my cc mL mr R A Q kc kn (mw G o ad sc I J) lv (pc + 3) (.ref (ad 32) :: rest)) : V G X my cc mL mr R A Q kc kn (mw G o ad sc I J) lv pc (.ref o :: rest) := V.get (ci := 9) (C := RX8) (T := TX8) (N := 34) 0 32 rfl rfl rfl kU_X8 (by decide) (by rw [hm]; exact kF_X8_99) rfl hdg kk
theorem Ml32 {i : Int32} (j : Nat) (hi : i = nI j) (hj : j < 640) (hdg : decode cc pc = .ok (.iaload, 1)) (kk : V G X my cc mL mr R A Q kc kn (mw G o ad sc I J) lv (pc + 1) (.int (I 32 j) :: rest)) : V G X my cc mL mr R A Q kc kn (mw G o ad sc I J) lv pc (.int i :: .ref (ad 32) :: rest) := V.iald 30 j rfl hi hj (by decide) hdg kk
theorem Ms32 {i : Int32} {x : Int32} (j : Nat) (hi : i = nI j) (hj : j < 640) (hdg : decode cc pc = .ok (.iastore, 1)) (kk : V G X my cc mL mr R A Q kc kn (mw G o ad sc (up2 I 32 j x) J) lv (pc + 1) (rest)) : V G X my cc mL mr R A Q kc kn (mw G o ad sc I J) lv pc (.int x :: .int i :: .ref (ad 32) :: rest) := V.iast 30 j rfl hi hj (by decide) rfl hdg kk
theorem Mg33 (hm : my.cls = RX8) (hdg : decode cc pc = .ok (.getfield 102, 3)) (kk : V G X my cc mL mr R A Q kc kn (mw G o ad sc I J) lv (pc + 3) (.ref (ad 33) :: rest)) : V G X my cc mL mr R A Q kc kn (mw G o ad sc I J) lv pc (.ref o :: rest) := V.get (ci := 9) (C := RX8) (T := TX8) (N := 34) 0 33 rfl rfl rfl kU_X8 (by decide) (by rw [hm]; exact kF_X8_102) rfl hdg kk
theorem Ml33 {i : Int32} (j : Nat) (hi : i = nI j) (hj : j < 640) (hdg : decode cc pc = .ok (.baload, 1)) (kk : V G X my cc mL mr R A Q kc kn (mw G o ad sc I J) lv (pc + 1) (.int (I 33 j) :: rest)) : V G X my cc mL mr R A Q kc kn (mw G o ad sc I J) lv pc (.int i :: .ref (ad 33) :: rest) := V.zald 31 j rfl hi hj (by decide) hdg kk
theorem Ms33 {i : Int32} {x : Int32} (j : Nat) (hi : i = nI j) (hj : j < 640) (hdg : decode cc pc = .ok (.bastore, 1)) (kk : V G X my cc mL mr R A Q kc kn (mw G o ad sc (up2 I 33 j (vp_nar .boolean x)) J) lv (pc + 1) (rest)) : V G X my cc mL mr R A Q kc kn (mw G o ad sc I J) lv pc (.int x :: .int i :: .ref (ad 33) :: rest) := V.zast 31 j rfl hi hj (by decide) rfl hdg kk
end MROWS
end
section
abbrev rm_X8_asAtFirst : Room := { frames := 0, cells := 0, slots := 0, locals := 0 }
theorem ds_X8_asAtFirst : descOk yX8_asAtFirst 1 := by decide +kernel
abbrev rm_X8_init : Room := { frames := 1, cells := 31, slots := 3238, locals := 40 }
theorem ds_X8_init : descOk yX8_init 0 := by decide +kernel
abbrev rm_X8_lies : Room := { frames := 0, cells := 0, slots := 0, locals := 0 }
theorem ds_X8_lies : descOk yX8_lies 3 := by decide +kernel
abbrev rm_X8_push : Room := { frames := 0, cells := 0, slots := 0, locals := 0 }
theorem ds_X8_push : descOk yX8_push 1 := by decide +kernel
abbrev rm_X8_feed : Room := { frames := 1, cells := 0, slots := 0, locals := 22 }
theorem ds_X8_feed : descOk yX8_feed 5 := by decide +kernel
abbrev rm_X8_letter : Room := { frames := 0, cells := 0, slots := 0, locals := 0 }
theorem ds_X8_letter : descOk yX8_letter 1 := by decide +kernel
abbrev rm_X8_canBe : Room := { frames := 1, cells := 0, slots := 0, locals := 25 }
theorem ds_X8_canBe : descOk yX8_canBe 2 := by decide +kernel
abbrev rm_X8_at : Room := { frames := 0, cells := 0, slots := 0, locals := 0 }
theorem ds_X8_at : descOk yX8_at 2 := by decide +kernel
abbrev rm_X8_reads : Room := { frames := 2, cells := 0, slots := 0, locals := 46 }
theorem ds_X8_reads : descOk yX8_reads 1 := by decide +kernel
abbrev rm_X8_edict : Room := { frames := 3, cells := 0, slots := 0, locals := 72 }
theorem ds_X8_edict : descOk yX8_edict 1 := by decide +kernel
abbrev rm_X8_rule : Room := { frames := 1, cells := 0, slots := 0, locals := 20 }
theorem ds_X8_rule : descOk yX8_rule 1 := by decide +kernel
abbrev rm_X8_town : Room := { frames := 1, cells := 0, slots := 0, locals := 25 }
theorem ds_X8_town : descOk yX8_town 3 := by decide +kernel
abbrev rm_X8_isTown : Room := { frames := 1, cells := 0, slots := 0, locals := 25 }
theorem ds_X8_isTown : descOk yX8_isTown 1 := by decide +kernel
abbrev rm_X8_road : Room := { frames := 2, cells := 0, slots := 0, locals := 46 }
theorem ds_X8_road : descOk yX8_road 4 := by decide +kernel
abbrev rm_X8_coin : Room := { frames := 1, cells := 0, slots := 0, locals := 25 }
theorem ds_X8_coin : descOk yX8_coin 1 := by decide +kernel
abbrev rm_X8_harvest : Room := { frames := 2, cells := 0, slots := 0, locals := 46 }
theorem ds_X8_harvest : descOk yX8_harvest 2 := by decide +kernel
abbrev rm_X8_trueIn : Room := { frames := 0, cells := 0, slots := 0, locals := 0 }
theorem ds_X8_trueIn : descOk yX8_trueIn 1 := by decide +kernel
abbrev rm_X8_bookIn : Room := { frames := 0, cells := 0, slots := 0, locals := 0 }
theorem ds_X8_bookIn : descOk yX8_bookIn 2 := by decide +kernel
abbrev rm_X8_goes : Room := { frames := 0, cells := 0, slots := 0, locals := 0 }
theorem ds_X8_goes : descOk yX8_goes 2 := by decide +kernel
abbrev rm_X8_takes : Room := { frames := 1, cells := 0, slots := 0, locals := 23 }
theorem ds_X8_takes : descOk yX8_takes 2 := by decide +kernel
abbrev rm_X8_comes : Room := { frames := 0, cells := 0, slots := 0, locals := 0 }
theorem ds_X8_comes : descOk yX8_comes 3 := by decide +kernel
abbrev rm_X8_least : Room := { frames := 0, cells := 0, slots := 0, locals := 0 }
theorem ds_X8_least : descOk yX8_least 2 := by decide +kernel
abbrev rm_X8_space : Room := { frames := 1, cells := 0, slots := 0, locals := 24 }
theorem ds_X8_space : descOk yX8_space 2 := by decide +kernel
abbrev rm_X8_price : Room := { frames := 0, cells := 0, slots := 0, locals := 0 }
theorem ds_X8_price : descOk yX8_price 2 := by decide +kernel
abbrev rm_X8_cartsCome : Room := { frames := 2, cells := 0, slots := 0, locals := 46 }
theorem ds_X8_cartsCome : descOk yX8_cartsCome 1 := by decide +kernel
abbrev rm_X8_harvests : Room := { frames := 2, cells := 0, slots := 0, locals := 46 }
theorem ds_X8_harvests : descOk yX8_harvests 2 := by decide +kernel
abbrev rm_X8_trades : Room := { frames := 2, cells := 0, slots := 0, locals := 50 }
theorem ds_X8_trades : descOk yX8_trades 3 := by decide +kernel
abbrev rm_X8_spoils : Room := { frames := 1, cells := 0, slots := 0, locals := 23 }
theorem ds_X8_spoils : descOk yX8_spoils 3 := by decide +kernel
abbrev rm_X8_turns : Room := { frames := 2, cells := 0, slots := 0, locals := 50 }
theorem ds_X8_turns : descOk yX8_turns 3 := by decide +kernel
abbrev rm_X8_goesBy : Room := { frames := 3, cells := 0, slots := 0, locals := 78 }
theorem ds_X8_goesBy : descOk yX8_goesBy 2 := by decide +kernel
abbrev rm_X8_step : Room := { frames := 4, cells := 0, slots := 0, locals := 104 }
theorem ds_X8_step : descOk yX8_step 1 := by decide +kernel
abbrev rm_X8_begins : Room := { frames := 0, cells := 0, slots := 0, locals := 0 }
theorem ds_X8_begins : descOk yX8_begins 2 := by decide +kernel
abbrev rm_X8_sends : Room := { frames := 2, cells := 0, slots := 0, locals := 50 }
theorem ds_X8_sends : descOk yX8_sends 4 := by decide +kernel
abbrev rm_X8_move : Room := { frames := 3, cells := 0, slots := 0, locals := 75 }
theorem ds_X8_move : descOk yX8_move 3 := by decide +kernel
abbrev rm_X8_loan : Room := { frames := 2, cells := 0, slots := 0, locals := 50 }
theorem ds_X8_loan : descOk yX8_loan 2 := by decide +kernel
abbrev rm_X8_steal : Room := { frames := 2, cells := 0, slots := 0, locals := 46 }
theorem ds_X8_steal : descOk yX8_steal 2 := by decide +kernel
abbrev rm_X8_measure : Room := { frames := 2, cells := 0, slots := 0, locals := 46 }
theorem ds_X8_measure : descOk yX8_measure 2 := by decide +kernel
abbrev rm_X8_missing : Room := { frames := 2, cells := 0, slots := 0, locals := 46 }
theorem ds_X8_missing : descOk yX8_missing 2 := by decide +kernel
abbrev rm_X8_copies : Room := { frames := 0, cells := 0, slots := 0, locals := 0 }
theorem ds_X8_copies : descOk yX8_copies 0 := by decide +kernel
abbrev rm_X8_hungerIn : Room := { frames := 0, cells := 0, slots := 0, locals := 0 }
theorem ds_X8_hungerIn : descOk yX8_hungerIn 1 := by decide +kernel
abbrev rm_X8_goesOn : Room := { frames := 4, cells := 0, slots := 0, locals := 104 }
theorem ds_X8_goesOn : descOk yX8_goesOn 1 := by decide +kernel
abbrev rm_X8_foretold : Room := { frames := 5, cells := 0, slots := 0, locals := 126 }
theorem ds_X8_foretold : descOk yX8_foretold 1 := by decide +kernel
abbrev rm_X8_best : Room := { frames := 5, cells := 0, slots := 0, locals := 126 }
theorem ds_X8_best : descOk yX8_best 2 := by decide +kernel
abbrev rm_X8_look : Room := { frames := 2, cells := 0, slots := 0, locals := 46 }
theorem ds_X8_look : descOk yX8_look 2 := by decide +kernel
abbrev rm_X8_lot : Room := { frames := 2, cells := 0, slots := 0, locals := 46 }
theorem ds_X8_lot : descOk yX8_lot 3 := by decide +kernel
abbrev rm_X8_count : Room := { frames := 1, cells := 0, slots := 0, locals := 25 }
theorem ds_X8_count : descOk yX8_count 1 := by decide +kernel
abbrev rm_X0_init : Room := { frames := 1, cells := 0, slots := 0, locals := 40 }
theorem ds_X0_init : descOk yX0_init 0 := by decide +kernel
abbrev rm_X0_size : Room := { frames := 0, cells := 0, slots := 0, locals := 0 }
theorem ds_X0_size : descOk yX0_size 0 := by decide +kernel
abbrev rm_X0_isFull : Room := { frames := 0, cells := 0, slots := 0, locals := 0 }
theorem ds_X0_isFull : descOk yX0_isFull 0 := by decide +kernel
abbrev rm_X0_add : Room := { frames := 1, cells := 0, slots := 0, locals := 20 }
theorem ds_X0_add : descOk yX0_add 3 := by decide +kernel
abbrev rm_X0_isThere : Room := { frames := 0, cells := 0, slots := 0, locals := 0 }
theorem ds_X0_isThere : descOk yX0_isThere 1 := by decide +kernel
abbrev rm_X0_arrives : Room := { frames := 1, cells := 0, slots := 0, locals := 21 }
theorem ds_X0_arrives : descOk yX0_arrives 2 := by decide +kernel
abbrev rm_X0_targetOf : Room := { frames := 1, cells := 0, slots := 0, locals := 21 }
theorem ds_X0_targetOf : descOk yX0_targetOf 1 := by decide +kernel
abbrev rm_X0_loadOf : Room := { frames := 1, cells := 0, slots := 0, locals := 21 }
theorem ds_X0_loadOf : descOk yX0_loadOf 1 := by decide +kernel
abbrev rm_X0_removeArrived : Room := { frames := 0, cells := 0, slots := 0, locals := 0 }
theorem ds_X0_removeArrived : descOk yX0_removeArrived 1 := by decide +kernel
abbrev rm_X0_loadInAll : Room := { frames := 0, cells := 0, slots := 0, locals := 0 }
theorem ds_X0_loadInAll : descOk yX0_loadInAll 0 := by decide +kernel
abbrev rm_X0_imitate : Room := { frames := 1, cells := 0, slots := 0, locals := 40 }
theorem ds_X0_imitate : descOk yX0_imitate 1 := by decide +kernel
abbrev rm_X1_init : Room := { frames := 1, cells := 0, slots := 0, locals := 40 }
theorem ds_X1_init : descOk yX1_init 0 := by decide +kernel
abbrev rm_J0_isLatin1_aae02 : Room := { frames := 0, cells := 0, slots := 0, locals := 0 }
theorem ds_J0_isLatin1_aae02 : descOk yJ0_isLatin1_aae02 0 := by decide +kernel
abbrev rm_J0_coder_7d493 : Room := { frames := 0, cells := 0, slots := 0, locals := 0 }
theorem ds_J0_coder_7d493 : descOk yJ0_coder_7d493 0 := by decide +kernel
abbrev rm_J0_length_8abf5 : Room := { frames := 1, cells := 0, slots := 0, locals := 20 }
theorem ds_J0_length_8abf5 : descOk yJ0_length_8abf5 0 := by decide +kernel
abbrev rm_J1_canEncode_9a6ad : Room := { frames := 0, cells := 0, slots := 0, locals := 0 }
theorem ds_J1_canEncode_9a6ad : descOk yJ1_canEncode_9a6ad 1 := by decide +kernel
abbrev rm_J1_indexOfChar_4cfef : Room := { frames := 0, cells := 0, slots := 0, locals := 0 }
theorem ds_J1_indexOfChar_4cfef : descOk yJ1_indexOfChar_4cfef 4 := by decide +kernel
abbrev rm_J1_indexOf_4cfef : Room := { frames := 1, cells := 0, slots := 0, locals := 40 }
theorem ds_J1_indexOf_4cfef : descOk yJ1_indexOf_4cfef 4 := by decide +kernel
abbrev rm_J0_indexOf_7cf53 : Room := { frames := 2, cells := 0, slots := 0, locals := 63 }
theorem ds_J0_indexOf_7cf53 : descOk yJ0_indexOf_7cf53 2 := by decide +kernel
abbrev rm_J0_indexOf_0f7a4 : Room := { frames := 3, cells := 0, slots := 0, locals := 85 }
theorem ds_J0_indexOf_0f7a4 : descOk yJ0_indexOf_0f7a4 1 := by decide +kernel
abbrev rm_X1_letterIndex : Room := { frames := 4, cells := 0, slots := 0, locals := 106 }
theorem ds_X1_letterIndex : descOk yX1_letterIndex 1 := by decide +kernel
abbrev rm_X1_number : Room := { frames := 0, cells := 0, slots := 0, locals := 0 }
theorem ds_X1_number : descOk yX1_number 1 := by decide +kernel
abbrev rm_X5_byteAt : Room := { frames := 0, cells := 0, slots := 0, locals := 0 }
theorem ds_X5_byteAt : descOk yX5_byteAt 1 := by decide +kernel
abbrev rm_X1_fault : Room := { frames := 0, cells := 0, slots := 0, locals := 0 }
theorem ds_X1_fault : descOk yX1_fault 2 := by decide +kernel
abbrev rm_X1_digitsEnd : Room := { frames := 1, cells := 0, slots := 0, locals := 21 }
theorem ds_X1_digitsEnd : descOk yX1_digitsEnd 3 := by decide +kernel
abbrev rm_X1_numberAt : Room := { frames := 1, cells := 0, slots := 0, locals := 21 }
theorem ds_X1_numberAt : descOk yX1_numberAt 3 := by decide +kernel
abbrev rm_X1_proclaim : Room := { frames := 5, cells := 0, slots := 0, locals := 126 }
theorem ds_X1_proclaim : descOk yX1_proclaim 2 := by decide +kernel
abbrev rm_Jxa1e45_init_da8c8 : Room := { frames := 1, cells := 0, slots := 0, locals := 40 }
theorem ds_Jxa1e45_init_da8c8 : descOk yJxa1e45_init_da8c8 0 := by decide +kernel
abbrev rm_Jxc12de_init_da8c8 : Room := { frames := 2, cells := 0, slots := 0, locals := 60 }
theorem ds_Jxc12de_init_da8c8 : descOk yJxc12de_init_da8c8 0 := by decide +kernel
abbrev rm_Jx4a65c_init_da8c8 : Room := { frames := 3, cells := 0, slots := 0, locals := 80 }
theorem ds_Jx4a65c_init_da8c8 : descOk yJx4a65c_init_da8c8 0 := by decide +kernel
abbrev rm_X2_init : Room := { frames := 4, cells := 0, slots := 0, locals := 100 }
theorem ds_X2_init : descOk yX2_init 0 := by decide +kernel
abbrev rm_Jx4a65c_size_8abf5 : Room := { frames := 0, cells := 0, slots := 0, locals := 0 }
theorem ds_Jx4a65c_size_8abf5 : descOk yJx4a65c_size_8abf5 0 := by decide +kernel
abbrev rm_X2_townCount : Room := { frames := 1, cells := 0, slots := 0, locals := 20 }
theorem ds_X2_townCount : descOk yX2_townCount 0 := by decide +kernel
abbrev rm_J3_checkIndex_8e157 : Room := { frames := 0, cells := 0, slots := 0, locals := 0 }
theorem ds_J3_checkIndex_8e157 : descOk yJ3_checkIndex_8e157 3 := by decide +kernel
abbrev rm_J15_checkIndex_7cf53 : Room := { frames := 1, cells := 0, slots := 0, locals := 22 }
theorem ds_J15_checkIndex_7cf53 : descOk yJ15_checkIndex_7cf53 2 := by decide +kernel
abbrev rm_Jx4a65c_elementData_915e3 : Room := { frames := 0, cells := 0, slots := 0, locals := 0 }
theorem ds_Jx4a65c_elementData_915e3 : descOk yJx4a65c_elementData_915e3 1 := by decide +kernel
abbrev rm_Jx4a65c_get_915e3 : Room := { frames := 2, cells := 0, slots := 0, locals := 43 }
theorem ds_Jx4a65c_get_915e3 : descOk yJx4a65c_get_915e3 1 := by decide +kernel
abbrev rm_X2_townAt : Room := { frames := 3, cells := 0, slots := 0, locals := 64 }
theorem ds_X2_townAt : descOk yX2_townAt 1 := by decide +kernel
abbrev rm_J8_newLength_cabcc : Room := { frames := 1, cells := 0, slots := 0, locals := 40 }
theorem ds_J8_newLength_cabcc : descOk yJ8_newLength_cabcc 3 := by decide +kernel
abbrev rm_J7_copyOf_6403c : Room := { frames := 1, cells := 0, slots := 0, locals := 40 }
theorem ds_J7_copyOf_6403c : descOk yJ7_copyOf_6403c 3 := by decide +kernel
abbrev rm_J7_copyOf_1904c : Room := { frames := 2, cells := 0, slots := 0, locals := 63 }
theorem ds_J7_copyOf_1904c : descOk yJ7_copyOf_1904c 2 := by decide +kernel
abbrev rm_Jx4a65c_grow_92f84 : Room := { frames := 3, cells := 0, slots := 0, locals := 84 }
theorem ds_Jx4a65c_grow_92f84 : descOk yJx4a65c_grow_92f84 1 := by decide +kernel
abbrev rm_Jx4a65c_grow_d5877 : Room := { frames := 4, cells := 0, slots := 0, locals := 107 }
theorem ds_Jx4a65c_grow_d5877 : descOk yJx4a65c_grow_d5877 0 := by decide +kernel
abbrev rm_Jx4a65c_add_72be8 : Room := { frames := 5, cells := 0, slots := 0, locals := 127 }
theorem ds_Jx4a65c_add_72be8 : descOk yJx4a65c_add_72be8 3 := by decide +kernel
abbrev rm_Jx4a65c_add_9ea2d : Room := { frames := 6, cells := 0, slots := 0, locals := 150 }
theorem ds_Jx4a65c_add_9ea2d : descOk yJx4a65c_add_9ea2d 1 := by decide +kernel
abbrev rm_X2_settle : Room := { frames := 7, cells := 0, slots := 0, locals := 171 }
theorem ds_X2_settle : descOk yX2_settle 1 := by decide +kernel
abbrev rm_X2_canSend : Room := { frames := 1, cells := 0, slots := 0, locals := 20 }
theorem ds_X2_canSend : descOk yX2_canSend 0 := by decide +kernel
abbrev rm_X4_hasLot : Room := { frames := 0, cells := 0, slots := 0, locals := 0 }
theorem ds_X4_hasLot : descOk yX4_hasLot 1 := by decide +kernel
abbrev rm_X4_lessen : Room := { frames := 1, cells := 0, slots := 0, locals := 21 }
theorem ds_X4_lessen : descOk yX4_lessen 2 := by decide +kernel
abbrev rm_X4_cut : Room := { frames := 1, cells := 0, slots := 0, locals := 40 }
theorem ds_X4_cut : descOk yX4_cut 2 := by decide +kernel
abbrev rm_X4_take : Room := { frames := 2, cells := 0, slots := 0, locals := 63 }
theorem ds_X4_take : descOk yX4_take 1 := by decide +kernel
abbrev rm_X3_otherEnd : Room := { frames := 0, cells := 0, slots := 0, locals := 0 }
theorem ds_X3_otherEnd : descOk yX3_otherEnd 1 := by decide +kernel
abbrev rm_X2_send : Room := { frames := 4, cells := 0, slots := 0, locals := 88 }
theorem ds_X2_send : descOk yX2_send 3 := by decide +kernel
abbrev rm_X2_measuresOnTheWay : Room := { frames := 1, cells := 0, slots := 0, locals := 23 }
theorem ds_X2_measuresOnTheWay : descOk yX2_measuresOnTheWay 0 := by decide +kernel
abbrev rm_X2_hungerEver : Room := { frames := 3, cells := 0, slots := 0, locals := 64 }
theorem ds_X2_hungerEver : descOk yX2_hungerEver 0 := by decide +kernel
abbrev rm_X4_space : Room := { frames := 0, cells := 0, slots := 0, locals := 0 }
theorem ds_X4_space : descOk yX4_space 0 := by decide +kernel
abbrev rm_X4_put : Room := { frames := 0, cells := 0, slots := 0, locals := 0 }
theorem ds_X4_put : descOk yX4_put 2 := by decide +kernel
abbrev rm_X6_receive : Room := { frames := 1, cells := 0, slots := 0, locals := 40 }
theorem ds_X6_receive : descOk yX6_receive 2 := by decide +kernel
abbrev rm_X2_unload : Room := { frames := 4, cells := 0, slots := 0, locals := 85 }
theorem ds_X2_unload : descOk yX2_unload 0 := by decide +kernel
abbrev rm_X6_reap : Room := { frames := 0, cells := 0, slots := 0, locals := 0 }
theorem ds_X6_reap : descOk yX6_reap 0 := by decide +kernel
abbrev rm_X6_payBack : Room := { frames := 1, cells := 0, slots := 0, locals := 40 }
theorem ds_X6_payBack : descOk yX6_payBack 1 := by decide +kernel
abbrev rm_X2_reapAndPayBack : Room := { frames := 3, cells := 0, slots := 0, locals := 64 }
theorem ds_X2_reapAndPayBack : descOk yX2_reapAndPayBack 0 := by decide +kernel
abbrev rm_X6_price : Room := { frames := 0, cells := 0, slots := 0, locals := 0 }
theorem ds_X6_price : descOk yX6_price 0 := by decide +kernel
abbrev rm_X6_buy : Room := { frames := 1, cells := 0, slots := 0, locals := 23 }
theorem ds_X6_buy : descOk yX6_buy 2 := by decide +kernel
abbrev rm_X4_held : Room := { frames := 0, cells := 0, slots := 0, locals := 0 }
theorem ds_X4_held : descOk yX4_held 0 := by decide +kernel
abbrev rm_X6_sell : Room := { frames := 3, cells := 0, slots := 0, locals := 88 }
theorem ds_X6_sell : descOk yX6_sell 1 := by decide +kernel
abbrev rm_X2_trade : Room := { frames := 4, cells := 0, slots := 0, locals := 109 }
theorem ds_X2_trade : descOk yX2_trade 2 := by decide +kernel
abbrev rm_X6_eat : Room := { frames := 1, cells := 0, slots := 0, locals := 40 }
theorem ds_X6_eat : descOk yX6_eat 0 := by decide +kernel
abbrev rm_X4_spoil : Room := { frames := 2, cells := 0, slots := 0, locals := 63 }
theorem ds_X4_spoil : descOk yX4_spoil 2 := by decide +kernel
abbrev rm_X6_spoilLots : Room := { frames := 3, cells := 0, slots := 0, locals := 90 }
theorem ds_X6_spoilLots : descOk yX6_spoilLots 2 := by decide +kernel
abbrev rm_X6_turnOver : Room := { frames := 3, cells := 0, slots := 0, locals := 88 }
theorem ds_X6_turnOver : descOk yX6_turnOver 2 := by decide +kernel
abbrev rm_X2_ageStores : Room := { frames := 4, cells := 0, slots := 0, locals := 112 }
theorem ds_X2_ageStores : descOk yX2_ageStores 1 := by decide +kernel
abbrev rm_X2_passMonths : Room := { frames := 5, cells := 0, slots := 0, locals := 137 }
theorem ds_X2_passMonths : descOk yX2_passMonths 2 := by decide +kernel
abbrev rm_X4_init : Room := { frames := 1, cells := 0, slots := 0, locals := 40 }
theorem ds_X4_init : descOk yX4_init 1 := by decide +kernel
abbrev rm_X6_init : Room := { frames := 2, cells := 0, slots := 0, locals := 61 }
theorem ds_X6_init : descOk yX6_init 3 := by decide +kernel
abbrev rm_X4_imitate : Room := { frames := 1, cells := 0, slots := 0, locals := 40 }
theorem ds_X4_imitate : descOk yX4_imitate 1 := by decide +kernel
abbrev rm_X6_imitate : Room := { frames := 2, cells := 0, slots := 0, locals := 61 }
theorem ds_X6_imitate : descOk yX6_imitate 1 := by decide +kernel
abbrev rm_X2_imitate : Room := { frames := 7, cells := 0, slots := 0, locals := 171 }
theorem ds_X2_imitate : descOk yX2_imitate 1 := by decide +kernel
abbrev rm_X3_init : Room := { frames := 1, cells := 0, slots := 0, locals := 40 }
theorem ds_X3_init : descOk yX3_init 4 := by decide +kernel
abbrev rm_X3_touches : Room := { frames := 0, cells := 0, slots := 0, locals := 0 }
theorem ds_X3_touches : descOk yX3_touches 1 := by decide +kernel
abbrev rm_X4_room : Room := { frames := 0, cells := 0, slots := 0, locals := 0 }
theorem ds_X4_room : descOk yX4_room 0 := by decide +kernel
abbrev rm_X4_lotCount : Room := { frames := 0, cells := 0, slots := 0, locals := 0 }
theorem ds_X4_lotCount : descOk yX4_lotCount 0 := by decide +kernel
abbrev rm_X4_foundEver : Room := { frames := 0, cells := 0, slots := 0, locals := 0 }
theorem ds_X4_foundEver : descOk yX4_foundEver 0 := by decide +kernel
abbrev rm_X4_monthOf : Room := { frames := 1, cells := 0, slots := 0, locals := 21 }
theorem ds_X4_monthOf : descOk yX4_monthOf 1 := by decide +kernel
abbrev rm_X4_bookOf : Room := { frames := 1, cells := 0, slots := 0, locals := 21 }
theorem ds_X4_bookOf : descOk yX4_bookOf 1 := by decide +kernel
abbrev rm_X4_measuredOf : Room := { frames := 1, cells := 0, slots := 0, locals := 21 }
theorem ds_X4_measuredOf : descOk yX4_measuredOf 1 := by decide +kernel
abbrev rm_X4_bookInAll : Room := { frames := 0, cells := 0, slots := 0, locals := 0 }
theorem ds_X4_bookInAll : descOk yX4_bookInAll 0 := by decide +kernel
abbrev rm_X4_unmeasuredBook : Room := { frames := 0, cells := 0, slots := 0, locals := 0 }
theorem ds_X4_unmeasuredBook : descOk yX4_unmeasuredBook 0 := by decide +kernel
abbrev rm_X4_pilfer : Room := { frames := 1, cells := 0, slots := 0, locals := 40 }
theorem ds_X4_pilfer : descOk yX4_pilfer 1 := by decide +kernel
abbrev rm_X4_audit : Room := { frames := 2, cells := 0, slots := 0, locals := 63 }
theorem ds_X4_audit : descOk yX4_audit 1 := by decide +kernel
abbrev rm_X5_init : Room := { frames := 1, cells := 0, slots := 0, locals := 40 }
theorem ds_X5_init : descOk yX5_init 0 := by decide +kernel
abbrev rm_X5_length : Room := { frames := 0, cells := 0, slots := 0, locals := 0 }
theorem ds_X5_length : descOk yX5_length 0 := by decide +kernel
abbrev rm_X5_hasRoomFor : Room := { frames := 0, cells := 0, slots := 0, locals := 0 }
theorem ds_X5_hasRoomFor : descOk yX5_hasRoomFor 1 := by decide +kernel
abbrev rm_X5_append : Room := { frames := 0, cells := 0, slots := 0, locals := 0 }
theorem ds_X5_append : descOk yX5_append 1 := by decide +kernel
abbrev rm_X5_wipe : Room := { frames := 0, cells := 0, slots := 0, locals := 0 }
theorem ds_X5_wipe : descOk yX5_wipe 0 := by decide +kernel
abbrev rm_X6_lend : Room := { frames := 3, cells := 0, slots := 0, locals := 88 }
theorem ds_X6_lend : descOk yX6_lend 2 := by decide +kernel
abbrev rm_X7_init : Room := { frames := 5, cells := 0, slots := 0, locals := 120 }
theorem ds_X7_init : descOk yX7_init 0 := by decide +kernel
abbrev rm_X7_feed : Room := { frames := 1, cells := 0, slots := 0, locals := 22 }
theorem ds_X7_feed : descOk yX7_feed 5 := by decide +kernel
abbrev rm_X7_edict : Room := { frames := 6, cells := 0, slots := 0, locals := 154 }
theorem ds_X7_edict : descOk yX7_edict 1 := by decide +kernel
abbrev rm_X7_rule : Room := { frames := 5, cells := 0, slots := 0, locals := 126 }
theorem ds_X7_rule : descOk yX7_rule 1 := by decide +kernel
abbrev rm_X7_isWithin : Room := { frames := 0, cells := 0, slots := 0, locals := 0 }
theorem ds_X7_isWithin : descOk yX7_isWithin 3 := by decide +kernel
abbrev rm_X7_town : Room := { frames := 8, cells := 0, slots := 0, locals := 192 }
theorem ds_X7_town : descOk yX7_town 3 := by decide +kernel
abbrev rm_X7_road : Room := { frames := 7, cells := 0, slots := 0, locals := 171 }
theorem ds_X7_road : descOk yX7_road 4 := by decide +kernel
abbrev rm_X7_coin : Room := { frames := 0, cells := 0, slots := 0, locals := 0 }
theorem ds_X7_coin : descOk yX7_coin 1 := by decide +kernel
abbrev rm_X7_harvest : Room := { frames := 4, cells := 0, slots := 0, locals := 85 }
theorem ds_X7_harvest : descOk yX7_harvest 2 := by decide +kernel
abbrev rm_X7_step : Room := { frames := 6, cells := 0, slots := 0, locals := 163 }
theorem ds_X7_step : descOk yX7_step 1 := by decide +kernel
abbrev rm_X7_roadAt : Room := { frames := 3, cells := 0, slots := 0, locals := 64 }
theorem ds_X7_roadAt : descOk yX7_roadAt 1 := by decide +kernel
abbrev rm_X7_movable : Room := { frames := 4, cells := 0, slots := 0, locals := 85 }
theorem ds_X7_movable : descOk yX7_movable 2 := by decide +kernel
abbrev rm_X7_move : Room := { frames := 5, cells := 0, slots := 0, locals := 112 }
theorem ds_X7_move : descOk yX7_move 3 := by decide +kernel
abbrev rm_X7_loan : Room := { frames := 4, cells := 0, slots := 0, locals := 110 }
theorem ds_X7_loan : descOk yX7_loan 2 := by decide +kernel
abbrev rm_X7_steal : Room := { frames := 4, cells := 0, slots := 0, locals := 85 }
theorem ds_X7_steal : descOk yX7_steal 2 := by decide +kernel
abbrev rm_X7_measure : Room := { frames := 4, cells := 0, slots := 0, locals := 85 }
theorem ds_X7_measure : descOk yX7_measure 2 := by decide +kernel
abbrev rm_X7_missing : Room := { frames := 4, cells := 0, slots := 0, locals := 85 }
theorem ds_X7_missing : descOk yX7_missing 2 := by decide +kernel
abbrev rm_X7_foretold : Room := { frames := 8, cells := 0, slots := 0, locals := 193 }
theorem ds_X7_foretold : descOk yX7_foretold 1 := by decide +kernel
abbrev rm_X7_best : Room := { frames := 8, cells := 0, slots := 0, locals := 193 }
theorem ds_X7_best : descOk yX7_best 2 := by decide +kernel
abbrev rm_X7_look : Room := { frames := 4, cells := 0, slots := 0, locals := 85 }
theorem ds_X7_look : descOk yX7_look 2 := by decide +kernel
abbrev rm_X7_lot : Room := { frames := 4, cells := 0, slots := 0, locals := 85 }
theorem ds_X7_lot : descOk yX7_lot 3 := by decide +kernel
abbrev rm_X7_takenByRoad : Room := { frames := 4, cells := 0, slots := 0, locals := 85 }
theorem ds_X7_takenByRoad : descOk yX7_takenByRoad 1 := by decide +kernel
abbrev rm_X7_count : Room := { frames := 5, cells := 0, slots := 0, locals := 107 }
theorem ds_X7_count : descOk yX7_count 1 := by decide +kernel
abbrev rm_J9_max_7cf53 : Room := { frames := 0, cells := 0, slots := 0, locals := 0 }
theorem ds_J9_max_7cf53 : descOk yJ9_max_7cf53 2 := by decide +kernel
abbrev rm_J9_min_7cf53 : Room := { frames := 0, cells := 0, slots := 0, locals := 0 }
theorem ds_J9_min_7cf53 : descOk yJ9_min_7cf53 2 := by decide +kernel
abbrev rm_J9_min_f86c9 : Room := { frames := 0, cells := 0, slots := 0, locals := 0 }
theorem ds_J9_min_f86c9 : descOk yJ9_min_f86c9 2 := by decide +kernel
end
section
/-! THE SPECIFICATION that both sides are tied to: plain functions over numbers and lists -/
theorem iinc1 (i : Nat) : nI i + Int32.ofInt 1 = nI (i + 1) := nI_1 i
theorem iincn (i n : Nat) : nI i + Int32.ofInt n = nI (i + n) := by
  rw [show Int32.ofInt (n : Int) = nI n from rfl]
  exact nI_add i n
/-- a LOT: its MONTH, what the BOOK shows, what is TRUE, whether it was MEASURED -/
abbrev Lt : Type := Nat × Int32 × Nat × Bool
def bI (b : Bool) : Int32 := if b then 1 else 0
def tsum : List Lt → Nat
  | [] => 0
  | l :: r => l.2.2.1 + tsum r
def bsum (all : Bool) : List Lt → Int64
  | [] => 0
  | l :: r => (if all || !l.2.2.2 then l.2.1.toInt64 else 0) + bsum all r
theorem tsum_app (a b : List Lt) : tsum (a ++ b) = tsum a + tsum b := by
  induction a with
  | nil => simp [tsum]
  | cons x r ih => simp only [List.cons_append, tsum, ih]; omega
theorem bsum_app (all : Bool) (a b : List Lt) : bsum all (a ++ b) = bsum all a + bsum all b := by
  induction a with
  | nil => simp [bsum]
  | cons x r ih => simp only [List.cons_append, bsum, ih]; rw [Int64.add_assoc]
theorem take_one {α : Type} {L : List α} {i : Nat} {l : α} (h : L[i]? = some l) : L.take (i + 1) = L.take i ++ [l] := by
  rw [List.take_succ, h]; rfl
theorem tsum_take {L : List Lt} {i : Nat} {l : Lt} (h : L[i]? = some l) : tsum (L.take (i + 1)) = tsum (L.take i) + l.2.2.1 := by
  rw [take_one h, tsum_app]; simp [tsum]
theorem bsum_take {all : Bool} {L : List Lt} {i : Nat} {l : Lt} (h : L[i]? = some l) : bsum all (L.take (i + 1)) = bsum all (L.take i) + (if all || !l.2.2.2 then l.2.1.toInt64 else 0) := by
  rw [take_one h, bsum_app]; simp [bsum]
theorem tsum_mem {L : List Lt} {l : Lt} (h : l ∈ L) : l.2.2.1 ≤ tsum L := by
  induction L with
  | nil => cases h
  | cons x r ih =>
    rcases List.mem_cons.mp h with rfl | h
    · simp only [tsum]; omega
    · have := ih h; simp only [tsum]; omega
theorem get_lt {α : Type} {L : List α} {i : Nat} (h : i < L.length) : ∃ l, L[i]? = some l := ⟨L[i], List.getElem?_eq_getElem h⟩
theorem lt_get {α : Type} {L : List α} {i : Nat} {l : α} (h : L[i]? = some l) : i < L.length := (List.getElem?_eq_some_iff.mp h).1
/-- taking n: the oldest LOTS first; what is gone shows its BOOK as FOUND -/
def tk : Nat → List Lt → Int64 → List Lt × Int64
  | _, [], f => ([], f)
  | n, l :: r, f => if n = 0 then (l :: r, f) else if n < l.2.2.1 then ((l.1, l.2.1 - nI n, l.2.2.1 - n, l.2.2.2) :: r, f) else tk (n - l.2.2.1) r (f + (l.2.1 - nI l.2.2.1).toInt64)
/-- n measures come in a MONTH -/
def pt (n mo : Nat) (L : List Lt) : List Lt :=
  if n = 0 then L else match L.getLast? with
  | none => [(mo, nI n, n, false)]
  | some l => if l.1 ≠ mo ∧ L.length < 40 then L ++ [(mo, nI n, n, false)] else L.dropLast ++ [(l.1, l.2.1 + nI n, l.2.2.1 + n, false)]
/-- what spoils: LOTS of a MONTH that is a or more ago lose p hundredths -/
def spl (p : Nat) (t : Nat) : Nat := (t * p + 99) / 100
def sp (now a p : Nat) : List Lt → Int64 → Nat → List Lt × Int64 × Nat
  | [], f, s => ([], f, s)
  | l :: r, f, s => if now < l.1 + a then (l :: (sp now a p r f s).1, (sp now a p r f s).2) else
      if l.2.2.1 - spl p l.2.2.1 = 0 then sp now a p r (f + (l.2.1 - nI (spl p l.2.2.1)).toInt64) (s + spl p l.2.2.1)
      else ((l.1, l.2.1 - nI (spl p l.2.2.1), l.2.2.1 - spl p l.2.2.1, l.2.2.2) :: (sp now a p r f (s + spl p l.2.2.1)).1, (sp now a p r f (s + spl p l.2.2.1)).2)
/-- the clerk -/
def pl : Nat → List Lt → List Lt
  | _, [] => []
  | n, l :: r => if n = 0 then l :: r else if n < l.2.2.1 then (l.1, l.2.1, l.2.2.1 - n, false) :: r else (l.1, l.2.1, 0, l.2.2.2 && l.2.2.1 == 0) :: pl (n - l.2.2.1) r
/-- well-formed LOTS -/
def okL (L : List Lt) : Prop := L.length ≤ 40 ∧ tsum L ≤ 50000 ∧ ∀ l ∈ L, l.1 ≤ 4000
end
section
/-! what a method leaves as it was; rows of the reference -/
def fr {α : Type} (P : Nat → Nat → Prop) (I I' : Nat → Nat → α) : Prop := ∀ k j, ¬ P k j → I' k j = I k j
theorem fr.rf {α : Type} {P : Nat → Nat → Prop} {I : Nat → Nat → α} : fr P I I := fun _ _ _ => rfl
theorem fr.tr {α : Type} {P : Nat → Nat → Prop} {I I' I'' : Nat → Nat → α} (h : fr P I I') (h2 : fr P I' I'') : fr P I I'' := fun k j n => (h2 k j n).trans (h k j n)
theorem fr.mono {α : Type} {P P' : Nat → Nat → Prop} {I I' : Nat → Nat → α} (h : fr P I I') (hp : ∀ k j, P k j → P' k j) : fr P' I I' := fun k j n => h k j (fun z => n (hp k j z))
theorem up2_s {α : Type} (I : Nat → Nat → α) (k j : Nat) (x : α) : up2 I k j x k j = x := by simp [up2]
theorem up2_k {α : Type} (I : Nat → Nat → α) {k j a : Nat} (x : α) (h : a ≠ k) : up2 I k j x a = I a := by simp [up2, h]
theorem up2_j {α : Type} (I : Nat → Nat → α) {k j b : Nat} (x : α) (h : b ≠ j) : up2 I k j x k b = I k b := by simp [up2, h]
theorem up2_n {α : Type} (I : Nat → Nat → α) {k j a b : Nat} (x : α) (h : ¬ (a = k ∧ b = j)) : up2 I k j x a b = I a b := by
  by_cases h1 : a = k
  · subst h1; exact up2_j I x (fun z => h ⟨rfl, z⟩)
  · rw [up2_k I x h1]
theorem up2_2 {α : Type} (I : Nat → Nat → α) (k j : Nat) (x y : α) : up2 (up2 I k j x) k j y = up2 I k j y := by
  funext a
  by_cases h : a = k
  · subst h; funext b; by_cases h2 : b = j <;> simp [up2, h2]
  · simp [up2, h]
theorem up2_id {α : Type} (I : Nat → Nat → α) (k j : Nat) : up2 I k j (I k j) = I := by
  funext a
  by_cases h : a = k
  · subst h; funext b; by_cases h2 : b = j <;> simp [up2, h2]
  · simp [up2, h]
theorem fr.up {α : Type} {P : Nat → Nat → Prop} {I : Nat → Nat → α} {k j : Nat} {x : α} (h : P k j) : fr P I (up2 I k j x) := fun a b n => up2_n I x (fun z => n (by rw [z.1, z.2]; exact h))
def ent (I : Nat → Nat → Int32) (p : Nat) (l : Lt) : Prop := I 30 p = nI l.1 ∧ I 31 p = l.2.1 ∧ I 32 p = nI l.2.2.1 ∧ I 33 p = bI l.2.2.2
/-- the reference's rows of the STORE x -/
def rowR (I : Nat → Nat → Int32) (x : Nat) (L : List Lt) : Prop := I 22 x = nI L.length ∧ ∀ i l, L[i]? = some l → ent I (40 * x + i) l
/-- the places of the STORE x -/
def pS (x k j : Nat) : Prop := (k = 22 ∧ j = x) ∨ (30 ≤ k ∧ k ≤ 33 ∧ 40 * x ≤ j ∧ j < 40 * x + 40)
theorem nar_bI (b : Bool) : vp_nar .boolean (bI b) = bI b := by cases b <;> decide
theorem bI_eq (b : Bool) : bI b = 0 ↔ b = false := by cases b <;> decide
def w4 (I : Nat → Nat → Int32) (p : Nat) (l : Lt) : Nat → Nat → Int32 := up2 (up2 (up2 (up2 I 30 p (nI l.1)) 31 p l.2.1) 32 p (nI l.2.2.1)) 33 p (bI l.2.2.2)
theorem w4_same (I : Nat → Nat → Int32) (p : Nat) (l : Lt) : ent (w4 I p l) p l := by
  refine ⟨?_, ?_, ?_, ?_⟩ <;> simp [w4, up2]
theorem w4_other {I : Nat → Nat → Int32} {p q : Nat} {l l' : Lt} (h : q ≠ p) (e : ent I q l') : ent (w4 I p l) q l' := by
  obtain ⟨a, b, c, d⟩ := e
  refine ⟨?_, ?_, ?_, ?_⟩ <;> simp [w4, up2, h, a, b, c, d]
theorem w4_22 (I : Nat → Nat → Int32) (p : Nat) (l : Lt) : (w4 I p l) 22 = I 22 := rfl
theorem w4_fr {I : Nat → Nat → Int32} {p x : Nat} {l : Lt} (h : 40 * x ≤ p ∧ p < 40 * x + 40) : fr (pS x) I (w4 I p l) :=
  (((fr.up (Or.inr ⟨by omega, by omega, h⟩)).tr (fr.up (Or.inr ⟨by omega, by omega, h⟩))).tr (fr.up (Or.inr ⟨by omega, by omega, h⟩))).tr (fr.up (Or.inr ⟨by omega, by omega, h⟩))
theorem ent_fr {P : Nat → Nat → Prop} {I I' : Nat → Nat → Int32} {p : Nat} {l : Lt} (h : fr P I I') (e : ent I p l) (n : ∀ k, 30 ≤ k → k ≤ 33 → ¬ P k p) : ent I' p l := by
  obtain ⟨a, b, c, d⟩ := e
  exact ⟨(h 30 p (n 30 (by omega) (by omega))).trans a, (h 31 p (n 31 (by omega) (by omega))).trans b, (h 32 p (n 32 (by omega) (by omega))).trans c, (h 33 p (n 33 (by omega) (by omega))).trans d⟩
theorem rowR_fr {P : Nat → Nat → Prop} {I I' : Nat → Nat → Int32} {x : Nat} {L : List Lt} (h : fr P I I') (e : rowR I x L) (n0 : ¬ P 22 x) (n : ∀ k j, 30 ≤ k → k ≤ 33 → 40 * x ≤ j → j < 40 * x + L.length → ¬ P k j) : rowR I' x L :=
  ⟨(h 22 x n0).trans e.1, fun i l hl => ent_fr h (e.2 i l hl) (fun k h1 h2 => n k _ h1 h2 (by omega) (by have := lt_get hl; omega))⟩
/-- the first LOT's BOOK and TRUE change -/
theorem rowR_head {I : Nat → Nat → Int32} {x : Nat} {l : Lt} {r : List Lt} {b : Int32} {t : Nat} (h : rowR I x (l :: r)) : rowR (up2 (up2 I 32 (40 * x) (nI t)) 31 (40 * x) b) x ((l.1, b, t, l.2.2.2) :: r) := by
  refine ⟨h.1, fun i l' hl => ?_⟩
  cases i with
  | zero =>
    have e := h.2 0 l rfl
    simp only [List.getElem?_cons_zero, Option.some.injEq] at hl
    subst hl
    refine ⟨e.1, ?_, ?_, e.2.2.2⟩
    · exact up2_s _ _ _ _
    · show (up2 (up2 I 32 (40 * x) (nI t)) 31 (40 * x) b) 32 (40 * x) = nI t
      rw [up2_k _ _ (by decide), up2_s]
  | succ i =>
    have e := h.2 (i + 1) l' hl
    refine ⟨e.1, ?_, ?_, e.2.2.2⟩
    · rw [up2_n _ _ (by omega)]; exact e.2.1
    · rw [up2_n _ _ (by omega), up2_n _ _ (by omega)]; exact e.2.2.1
theorem head_fr {I : Nat → Nat → Int32} {x t : Nat} {b : Int32} : fr (pS x) I (up2 (up2 I 32 (40 * x) (nI t)) 31 (40 * x) b) := (fr.up (Or.inr ⟨by omega, by omega, by omega, by omega⟩)).tr (fr.up (Or.inr ⟨by omega, by omega, by omega, by omega⟩))
/-- one LOT of the row goes: the step of the loop that moves the others -/
theorem goes_at {L : List Lt} {i j : Nat} (h : i ≤ j) : (L.eraseIdx i)[j]? = L[j + 1]? := by
  rw [List.getElem?_eraseIdx, if_neg (by omega)]
theorem goes_lo {L : List Lt} {i j : Nat} (h : j < i) : (L.eraseIdx i)[j]? = L[j]? := by
  rw [List.getElem?_eraseIdx, if_pos h]
theorem er_len {L : List Lt} {i : Nat} (h : i < L.length) : (L.eraseIdx i).length = L.length - 1 := List.length_eraseIdx_of_lt h
theorem tk_0 (L : List Lt) (f : Int64) : tk 0 L f = (L, f) := by cases L <;> simp [tk]
theorem tk_nil (n : Nat) (f : Int64) : tk n [] f = ([], f) := by simp [tk]
theorem tk_lt {n : Nat} {l : Lt} {r : List Lt} {f : Int64} (h0 : 0 < n) (h : n < l.2.2.1) : tk n (l :: r) f = ((l.1, l.2.1 - nI n, l.2.2.1 - n, l.2.2.2) :: r, f) := by
  rw [tk, if_neg (by omega), if_pos h]
theorem tk_ge {n : Nat} {l : Lt} {r : List Lt} {f : Int64} (h0 : 0 < n) (h : l.2.2.1 ≤ n) : tk n (l :: r) f = tk (n - l.2.2.1) r (f + (l.2.1 - nI l.2.2.1).toInt64) := by
  rw [tk, if_neg (by omega), if_neg (by omega)]
theorem sub1_inc (a : Nat) : nI a - nI 1 + Int32.ofInt 1 = nI a := by
  rw [show Int32.ofInt 1 = nI 1 from rfl, Int32.sub_add_cancel]
theorem pt_0 (mo : Nat) (L : List Lt) : pt 0 mo L = L := by simp [pt]
theorem pt_nil {n mo : Nat} (h : n ≠ 0) : pt n mo [] = [] ++ [(mo, nI n, n, false)] := by simp [pt, h]
theorem last_at {L : List Lt} : L.getLast? = L[L.length - 1]? := List.getLast?_eq_getElem? 
theorem pt_new {n mo : Nat} {L : List Lt} {l : Lt} (h : n ≠ 0) (hl : L[L.length - 1]? = some l) (h1 : l.1 ≠ mo) (h2 : L.length < 40) : pt n mo L = L ++ [(mo, nI n, n, false)] := by
  rw [pt, if_neg h, last_at, hl]
  exact if_pos ⟨h1, h2⟩
theorem pt_mod {n mo : Nat} {L : List Lt} {l : Lt} (h : n ≠ 0) (hl : L[L.length - 1]? = some l) (h1 : l.1 = mo ∨ 40 ≤ L.length) : pt n mo L = L.dropLast ++ [(l.1, l.2.1 + nI n, l.2.2.1 + n, false)] := by
  rw [pt, if_neg h, last_at, hl]
  exact if_neg (fun z => by rcases h1 with q | q; exact z.1 q; omega)
theorem row_new {I I' : Nat → Nat → Int32} {x n mo : Nat} {L : List Lt} (h : rowR I x L) (hl : L.length < 40) (h0 : I' 22 x = nI (L.length + 1)) (h1 : I' 30 (40 * x + L.length) = nI mo) (h2 : I' 31 (40 * x + L.length) = nI n) (h3 : I' 32 (40 * x + L.length) = nI n) (h4 : I' 33 (40 * x + L.length) = 0) (hf : ∀ k j, ¬ (k = 22 ∧ j = x) → ¬ (30 ≤ k ∧ k ≤ 33 ∧ j = 40 * x + L.length) → I' k j = I k j) : rowR I' x (L ++ [(mo, nI n, n, false)]) ∧ fr (pS x) I I' := by
  refine ⟨⟨by rw [h0, List.length_append]; rfl, fun i l hi => ?_⟩, fun k j z => hf k j (fun q => z (Or.inl q)) (fun q => z (Or.inr ⟨q.1, q.2.1, by omega, by omega⟩))⟩
  by_cases q : i < L.length
  · rw [List.getElem?_append_left q] at hi
    obtain ⟨a, b, c, d⟩ := h.2 i l hi
    exact ⟨(hf _ _ (by omega) (by omega)).trans a, (hf _ _ (by omega) (by omega)).trans b, (hf _ _ (by omega) (by omega)).trans c, (hf _ _ (by omega) (by omega)).trans d⟩
  · have := lt_get hi
    rw [List.length_append] at this
    have e : i = L.length := by simp at this; omega
    subst e
    rw [List.getElem?_append_right (by omega)] at hi
    simp at hi
    subst hi
    exact ⟨h1, h2, h3, h4⟩
theorem row_mod {I I' : Nat → Nat → Int32} {x n : Nat} {L : List Lt} {l : Lt} (h : rowR I x L) (hl : L.length ≤ 40) (hg : L[L.length - 1]? = some l) (h2 : I' 31 (40 * x + (L.length - 1)) = l.2.1 + nI n) (h3 : I' 32 (40 * x + (L.length - 1)) = nI (l.2.2.1 + n)) (h4 : I' 33 (40 * x + (L.length - 1)) = 0) (hf : ∀ k j, ¬ (31 ≤ k ∧ k ≤ 33 ∧ j = 40 * x + (L.length - 1)) → I' k j = I k j) : rowR I' x (L.dropLast ++ [(l.1, l.2.1 + nI n, l.2.2.1 + n, false)]) ∧ fr (pS x) I I' := by
  have hpos := lt_get hg
  refine ⟨⟨by rw [hf _ _ (by omega), h.1, List.length_append, List.length_dropLast]; congr 1; simp; omega, fun i l' hi => ?_⟩, fun k j z => hf k j (fun q => z (Or.inr ⟨by omega, by omega, by omega, by omega⟩))⟩
  by_cases q : i < L.length - 1
  · rw [List.getElem?_append_left (by rw [List.length_dropLast]; exact q), List.getElem?_dropLast, if_pos q] at hi
    obtain ⟨a, b, c, d⟩ := h.2 i l' hi
    exact ⟨(hf _ _ (by omega)).trans a, (hf _ _ (by omega)).trans b, (hf _ _ (by omega)).trans c, (hf _ _ (by omega)).trans d⟩
  · have := lt_get hi
    rw [List.length_append, List.length_dropLast] at this
    have e : i = L.length - 1 := by simp at this; omega
    subst e
    rw [List.getElem?_append_right (by rw [List.length_dropLast]; omega), List.length_dropLast] at hi
    simp at hi
    subst hi
    obtain ⟨a, b, c, d⟩ := h.2 _ _ hg
    exact ⟨(hf _ _ (by omega)).trans a, h2, h3, h4⟩
end
section
set_option maxHeartbeats 4000000 in
set_option maxRecDepth 20000 in
theorem c_X8_lies (l : Launch) (G : GG) (v a b : Int64) : Ct l G yX8_lies cX8_lies 6 (some .boolean) rm_X8_lies [.long (v), .long (a), .long (b)] [] (fun u : Unit => []) (fun u : Unit => some (.int (if a ≤ v ∧ v ≤ b then 1 else 0))) (fun u : Unit => True) := by
  refine Ct.of (by decide) (Nat.le_of_ble_eq_true rfl) (fun X A hX => ?_)
  subst hX
  refine V.to (lv' := [(0, .long (v)), (2, .long (a)), (4, .long (b))]) (st := []) (pc' := 0) rfl rfl rfl ?_
  refine V.lload_n dX8_lies_0 rfl rfl ?_
  refine V.lload_n dX8_lies_1 rfl rfl ?_
  refine V.lc_lt (tgt := 17) dX8_lies_2 dX8_lies_3 (by decide) (fun c_1 => ?_) (fun c_1 => ?_)
  · refine V.iconst (v := nI (0)) dX8_lies_17 rfl ?_
    exact V.zret () rfl rfl (by rw [if_neg (fun h => Int64.not_lt.mpr h.1 c_1)]; rfl) trivial rfl (by decide) (by decide) dX8_lies_18
  · refine V.lload_n dX8_lies_6 rfl rfl ?_
    refine V.lload dX8_lies_7 rfl ?_
    refine V.lc_gt (tgt := 17) dX8_lies_9 dX8_lies_10 (by decide) (fun c_2 => ?_) (fun c_2 => ?_)
    · refine V.iconst (v := nI (0)) dX8_lies_17 rfl ?_
      exact V.zret () rfl rfl (by rw [if_neg (fun h => Int64.not_lt.mpr h.2 c_2)]; rfl) trivial rfl (by decide) (by decide) dX8_lies_18
    · refine V.iconst (v := nI (1)) dX8_lies_13 rfl ?_
      refine V.goto (tgt := 18) dX8_lies_14 (by decide) ?_
      exact V.zret () rfl rfl (by rw [if_pos ⟨Int64.not_lt.mp c_1, Int64.not_lt.mp c_2⟩]; rfl) trivial rfl (by decide) (by decide) dX8_lies_18
set_option maxHeartbeats 4000000 in
set_option maxRecDepth 20000 in
theorem c_X8_least (l : Launch) (G : GG) (a b : Int64) : Ct l G yX8_least cX8_least 4 (some .long) rm_X8_least [.long (a), .long (b)] [] (fun u : Unit => []) (fun u : Unit => some (.long (if a < b then a else b))) (fun u : Unit => True) := by
  refine Ct.of (by decide) (Nat.le_of_ble_eq_true rfl) (fun X A hX => ?_)
  subst hX
  refine V.to (lv' := [(0, .long (a)), (2, .long (b))]) (st := []) (pc' := 0) rfl rfl rfl ?_
  refine V.lload_n dX8_least_0 rfl rfl ?_
  refine V.lload_n dX8_least_1 rfl rfl ?_
  refine V.lc_ge (tgt := 10) dX8_least_2 dX8_least_3 (by decide) (fun c_1 => ?_) (fun c_1 => ?_)
  · have c_1 := Int64.not_lt.mpr c_1
    refine V.lload_n dX8_least_10 rfl rfl ?_
    exact V.lret () rfl (by rw [if_neg c_1]) trivial rfl (by decide) (by decide) dX8_least_11
  · have c_1 := Int64.not_le.mp c_1
    refine V.lload_n dX8_least_6 rfl rfl ?_
    refine V.goto (tgt := 11) dX8_least_7 (by decide) ?_
    exact V.lret () rfl (by rw [if_pos c_1]) trivial rfl (by decide) (by decide) dX8_least_11
set_option maxHeartbeats 4000000 in
set_option maxRecDepth 20000 in
theorem c_X8_trueIn (l : Launch) (G : GG) (o : Nat) (ad : Nat → Nat) (sc : Int32 × Int32 × Int32) (I : Nat → Nat → Int32) (J : Nat → Nat → Int64) (x : Nat) (L : List Lt) (hx : x < 16) (hL : rowR I x L) (ok : okL L) : Ct l G yX8_trueIn cX8_trueIn 5 (some .long) rm_X8_trueIn [.ref (o), .int (nI (x))] (mw G o ad sc I J) (fun u : Unit => (mw G o ad sc I J)) (fun u : Unit => some (.long (lN (tsum L)))) (fun u : Unit => True) := by
  refine Ct.of (by decide) (Nat.le_of_ble_eq_true rfl) (fun X A hX => ?_)
  subst hX
  refine V.to (lv' := [(0, .ref (o)), (1, .int (nI (x)))]) (st := []) (pc' := 0) rfl rfl rfl ?_
  have loop : ∀ (d : Nat) (i : Nat) (s : Int64), L.length - i < d → i ≤ L.length → s = lN (tsum (L.take i)) → V G X yX8_trueIn cX8_trueIn 5 (some .long) rm_X8_trueIn A (MZ G X rm_X8_trueIn A (fun u : Unit => (mw G o ad sc I J)) (fun u : Unit => some (.long (lN (tsum L)))) (fun u : Unit => True)) 0 0 (mw G o ad sc I J) [(4, .int (nI (i))), (2, .long (s)), (0, .ref (o)), (1, .int (nI (x)))] 5 [] := by
    intro d
    induction d with
    | zero => intro i s hd; exact absurd hd (Nat.not_lt_zero _)
    | succ d ih =>
      intro i s hd hi hs
      have hn := ok.1
      refine V.iload dX8_trueIn_5 rfl ?_
      refine V.aload_n dX8_trueIn_7 rfl rfl ?_
      refine Mg22 rfl dX8_trueIn_8 ?_
      refine V.iload_n dX8_trueIn_11 rfl rfl ?_
      refine Ml22 (x) rfl (by omega) dX8_trueIn_12 ?_
      refine V.ei (y := nI (L.length)) hL.1 ?_
      refine V.icmp_ge (tgt := 38) dX8_trueIn_13 (by decide) (fun c_1 => ?_) (fun c_1 => ?_)
      · have hc := (nI_leI (by omega) (by omega)).mp c_1
        have he : i = L.length := by omega
        subst he
        rw [List.take_length] at hs
        subst hs
        refine V.lload_n dX8_trueIn_38 rfl rfl ?_
        exact V.lret () rfl rfl trivial rfl (by decide) (by decide) dX8_trueIn_39
      · have hc : i < L.length := Nat.lt_of_not_le (fun h => c_1 (nI_le h (by omega)))
        obtain ⟨l, hl⟩ := get_lt hc
        have hm := tsum_mem (List.mem_of_getElem? hl)
        have ht := ok.2.1
        refine V.lload_n dX8_trueIn_16 rfl rfl ?_
        refine V.aload_n dX8_trueIn_17 rfl rfl ?_
        refine Mg32 rfl dX8_trueIn_18 ?_
        refine V.bipush (v := nI (40)) dX8_trueIn_21 rfl ?_
        refine V.iload_n dX8_trueIn_23 rfl rfl ?_
        refine V.imul dX8_trueIn_24 ?_
        refine V.ei (pk_mul _ _) ?_
        refine V.iload dX8_trueIn_25 rfl ?_
        refine V.iadd dX8_trueIn_27 ?_
        refine V.ei (nI_add _ _) ?_
        refine Ml32 (((40) * (x)) + (i)) rfl (by omega) dX8_trueIn_28 ?_
        refine V.ei (y := nI (l.2.2.1)) (hL.2 i l hl).2.2.1 ?_
        refine V.i2l (v := lN (l.2.2.1)) dX8_trueIn_29 (nI_l (by omega)) ?_
        refine V.ladd dX8_trueIn_30 ?_
        refine V.lstore_n (lv' := [(2, .long ((s) + (lN (l.2.2.1)))), (4, .int (nI (i))), (0, .ref (o)), (1, .int (nI (x)))]) dX8_trueIn_31 rfl (by decide) rfl ?_
        refine V.iinc (k := 1) (v := nI (i + 1)) (lv' := [(4, .int (nI (i + 1))), (2, .long ((s) + (lN (l.2.2.1)))), (0, .ref (o)), (1, .int (nI (x)))]) dX8_trueIn_32 rfl (iinc1 _) (by decide) rfl ?_
        refine V.goto (tgt := 5) dX8_trueIn_35 (by decide) ?_
        refine V.pick [0, 1, 2, 3] (lv' := [(4, .int (nI (i + 1))), (2, .long ((s) + (lN (l.2.2.1)))), (0, .ref (o)), (1, .int (nI (x)))]) rfl ?_; exact ih (i + 1) _ (by omega) (by omega) (by rw [tsum_take hl, hs, lN_add])
  refine V.lconst (v := lN 0) dX8_trueIn_0 rfl ?_
  refine V.lstore_n (lv' := [(2, .long (lN (0))), (0, .ref (o)), (1, .int (nI (x)))]) dX8_trueIn_1 rfl (by decide) rfl ?_
  refine V.iconst (v := nI (0)) dX8_trueIn_2 rfl ?_
  refine V.istore (lv' := [(4, .int (nI (0))), (2, .long (lN (0))), (0, .ref (o)), (1, .int (nI (x)))]) dX8_trueIn_3 (by decide) rfl ?_
  refine V.pick [0, 1, 2, 3] (lv' := [(4, .int (nI (0))), (2, .long (lN (0))), (0, .ref (o)), (1, .int (nI (x)))]) rfl ?_; exact loop (L.length + 1) 0 _ (by omega) (by omega) (by simp [tsum])
set_option maxHeartbeats 4000000 in
set_option maxRecDepth 20000 in
theorem c_X8_bookIn (l : Launch) (G : GG) (o : Nat) (ad : Nat → Nat) (sc : Int32 × Int32 × Int32) (I : Nat → Nat → Int32) (J : Nat → Nat → Int64) (x : Nat) (al : Bool) (L : List Lt) (hx : x < 16) (hL : rowR I x L) (hn : L.length ≤ 40) : Ct l G yX8_bookIn cX8_bookIn 6 (some .long) rm_X8_bookIn [.ref (o), .int (nI (x)), .int (bI al)] (mw G o ad sc I J) (fun u : Unit => (mw G o ad sc I J)) (fun u : Unit => some (.long (bsum al L))) (fun u : Unit => True) := by
  refine Ct.of (by decide) (Nat.le_of_ble_eq_true rfl) (fun X A hX => ?_)
  subst hX
  refine V.to (lv' := [(0, .ref (o)), (1, .int (nI (x))), (2, .int (bI al))]) (st := []) (pc' := 0) rfl rfl rfl ?_
  have loop : ∀ (d : Nat) (i : Nat) (s : Int64), L.length - i < d → i ≤ L.length → s = bsum al (L.take i) → V G X yX8_bookIn cX8_bookIn 6 (some .long) rm_X8_bookIn A (MZ G X rm_X8_bookIn A (fun u : Unit => (mw G o ad sc I J)) (fun u : Unit => some (.long (bsum al L))) (fun u : Unit => True)) 0 0 (mw G o ad sc I J) [(5, .int (nI (i))), (3, .long (s)), (0, .ref (o)), (1, .int (nI (x))), (2, .int (bI al))] 5 [] := by
    intro d
    induction d with
    | zero => intro i s hd; exact absurd hd (Nat.not_lt_zero _)
    | succ d ih =>
      intro i s hd hi hs
      refine V.iload dX8_bookIn_5 rfl ?_
      refine V.aload_n dX8_bookIn_7 rfl rfl ?_
      refine Mg22 rfl dX8_bookIn_8 ?_
      refine V.iload_n dX8_bookIn_11 rfl rfl ?_
      refine Ml22 (x) rfl (by omega) dX8_bookIn_12 ?_
      refine V.ei (y := nI (L.length)) hL.1 ?_
      refine V.icmp_ge (tgt := 61) dX8_bookIn_13 (by decide) (fun c_1 => ?_) (fun c_1 => ?_)
      · have hc := (nI_leI (by omega) (by omega)).mp c_1
        have he : i = L.length := by omega
        subst he
        rw [List.take_length] at hs
        subst hs
        refine V.lload_n dX8_bookIn_61 rfl rfl ?_
        exact V.lret () rfl rfl trivial rfl (by decide) (by decide) dX8_bookIn_62
      · have hc : i < L.length := Nat.lt_of_not_le (fun h => c_1 (nI_le h (by omega)))
        obtain ⟨l, hl⟩ := get_lt hc
        refine V.lload_n dX8_bookIn_16 rfl rfl ?_
        refine V.iload_n dX8_bookIn_17 rfl rfl ?_
        refine V.if_ne (tgt := 36) dX8_bookIn_18 (by decide) (fun c_2 => ?_) (fun c_2 => ?_)
        · have hq : (al || !l.2.2.2) = true := by cases al <;> simp_all [bI]
          refine V.aload_n dX8_bookIn_36 rfl rfl ?_
          refine Mg31 rfl dX8_bookIn_37 ?_
          refine V.bipush (v := nI (40)) dX8_bookIn_40 rfl ?_
          refine V.iload_n dX8_bookIn_42 rfl rfl ?_
          refine V.imul dX8_bookIn_43 ?_
          refine V.ei (pk_mul _ _) ?_
          refine V.iload dX8_bookIn_44 rfl ?_
          refine V.iadd dX8_bookIn_46 ?_
          refine V.ei (nI_add _ _) ?_
          refine Ml31 (((40) * (x)) + (i)) rfl (by omega) dX8_bookIn_47 ?_
          refine V.ei (y := l.2.1) (hL.2 i l hl).2.1 ?_
          refine V.i2l dX8_bookIn_48 rfl ?_
          refine V.goto (tgt := 53) dX8_bookIn_49 (by decide) ?_
          refine V.ladd dX8_bookIn_53 ?_
          refine V.lstore_n (lv' := [(3, .long ((s) + ((l.2.1).toInt64))), (5, .int (nI (i))), (0, .ref (o)), (1, .int (nI (x))), (2, .int (bI al))]) dX8_bookIn_54 rfl (by decide) rfl ?_
          refine V.iinc (k := 1) (v := nI (i + 1)) (lv' := [(5, .int (nI (i + 1))), (3, .long ((s) + ((l.2.1).toInt64))), (0, .ref (o)), (1, .int (nI (x))), (2, .int (bI al))]) dX8_bookIn_55 rfl (iinc1 _) (by decide) rfl ?_
          refine V.goto (tgt := 5) dX8_bookIn_58 (by decide) ?_
          refine V.pick [0, 1, 2, 3, 4] (lv' := [(5, .int (nI (i + 1))), (3, .long ((s) + ((l.2.1).toInt64))), (0, .ref (o)), (1, .int (nI (x))), (2, .int (bI al))]) rfl ?_; exact ih (i + 1) _ (by omega) (by omega) (by rw [bsum_take hl, hs, hq]; rfl)
        · refine V.aload_n dX8_bookIn_21 rfl rfl ?_
          refine Mg33 rfl dX8_bookIn_22 ?_
          refine V.bipush (v := nI (40)) dX8_bookIn_25 rfl ?_
          refine V.iload_n dX8_bookIn_27 rfl rfl ?_
          refine V.imul dX8_bookIn_28 ?_
          refine V.ei (pk_mul _ _) ?_
          refine V.iload dX8_bookIn_29 rfl ?_
          refine V.iadd dX8_bookIn_31 ?_
          refine V.ei (nI_add _ _) ?_
          refine Ml33 (((40) * (x)) + (i)) rfl (by omega) dX8_bookIn_32 ?_
          refine V.ei (y := bI l.2.2.2) (hL.2 i l hl).2.2.2 ?_
          refine V.if_ne (tgt := 52) dX8_bookIn_33 (by decide) (fun c_3 => ?_) (fun c_3 => ?_)
          · have hq : (al || !l.2.2.2) = false := by cases al <;> cases hb : l.2.2.2 <;> simp_all [bI]
            refine V.lconst (v := lN 0) dX8_bookIn_52 rfl ?_
            refine V.ladd dX8_bookIn_53 ?_
            refine V.lstore_n (lv' := [(3, .long ((s) + (lN (0)))), (5, .int (nI (i))), (0, .ref (o)), (1, .int (nI (x))), (2, .int (bI al))]) dX8_bookIn_54 rfl (by decide) rfl ?_
            refine V.iinc (k := 1) (v := nI (i + 1)) (lv' := [(5, .int (nI (i + 1))), (3, .long ((s) + (lN (0)))), (0, .ref (o)), (1, .int (nI (x))), (2, .int (bI al))]) dX8_bookIn_55 rfl (iinc1 _) (by decide) rfl ?_
            refine V.goto (tgt := 5) dX8_bookIn_58 (by decide) ?_
            refine V.pick [0, 1, 2, 3, 4] (lv' := [(5, .int (nI (i + 1))), (3, .long ((s) + (lN (0)))), (0, .ref (o)), (1, .int (nI (x))), (2, .int (bI al))]) rfl ?_; exact ih (i + 1) _ (by omega) (by omega) (by rw [bsum_take hl, hs, hq]; rfl)
          · have hq : (al || !l.2.2.2) = true := by cases al <;> cases hb : l.2.2.2 <;> simp_all [bI]
            refine V.aload_n dX8_bookIn_36 rfl rfl ?_
            refine Mg31 rfl dX8_bookIn_37 ?_
            refine V.bipush (v := nI (40)) dX8_bookIn_40 rfl ?_
            refine V.iload_n dX8_bookIn_42 rfl rfl ?_
            refine V.imul dX8_bookIn_43 ?_
            refine V.ei (pk_mul _ _) ?_
            refine V.iload dX8_bookIn_44 rfl ?_
            refine V.iadd dX8_bookIn_46 ?_
            refine V.ei (nI_add _ _) ?_
            refine Ml31 (((40) * (x)) + (i)) rfl (by omega) dX8_bookIn_47 ?_
            refine V.ei (y := l.2.1) (hL.2 i l hl).2.1 ?_
            refine V.i2l dX8_bookIn_48 rfl ?_
            refine V.goto (tgt := 53) dX8_bookIn_49 (by decide) ?_
            refine V.ladd dX8_bookIn_53 ?_
            refine V.lstore_n (lv' := [(3, .long ((s) + ((l.2.1).toInt64))), (5, .int (nI (i))), (0, .ref (o)), (1, .int (nI (x))), (2, .int (bI al))]) dX8_bookIn_54 rfl (by decide) rfl ?_
            refine V.iinc (k := 1) (v := nI (i + 1)) (lv' := [(5, .int (nI (i + 1))), (3, .long ((s) + ((l.2.1).toInt64))), (0, .ref (o)), (1, .int (nI (x))), (2, .int (bI al))]) dX8_bookIn_55 rfl (iinc1 _) (by decide) rfl ?_
            refine V.goto (tgt := 5) dX8_bookIn_58 (by decide) ?_
            refine V.pick [0, 1, 2, 3, 4] (lv' := [(5, .int (nI (i + 1))), (3, .long ((s) + ((l.2.1).toInt64))), (0, .ref (o)), (1, .int (nI (x))), (2, .int (bI al))]) rfl ?_; exact ih (i + 1) _ (by omega) (by omega) (by rw [bsum_take hl, hs, hq]; rfl)
  refine V.lconst (v := lN 0) dX8_bookIn_0 rfl ?_
  refine V.lstore_n (lv' := [(3, .long (lN (0))), (0, .ref (o)), (1, .int (nI (x))), (2, .int (bI al))]) dX8_bookIn_1 rfl (by decide) rfl ?_
  refine V.iconst (v := nI (0)) dX8_bookIn_2 rfl ?_
  refine V.istore (lv' := [(5, .int (nI (0))), (3, .long (lN (0))), (0, .ref (o)), (1, .int (nI (x))), (2, .int (bI al))]) dX8_bookIn_3 (by decide) rfl ?_
  refine V.pick [0, 1, 2, 3, 4] (lv' := [(5, .int (nI (0))), (3, .long (lN (0))), (0, .ref (o)), (1, .int (nI (x))), (2, .int (bI al))]) rfl ?_; exact loop (L.length + 1) 0 _ (by omega) (by omega) (by simp [bsum]; rfl)
set_option maxHeartbeats 4000000 in
set_option maxRecDepth 20000 in
theorem c_X8_goes (l : Launch) (G : GG) (o : Nat) (ad : Nat → Nat) (sc : Int32 × Int32 × Int32) (I : Nat → Nat → Int32) (J : Nat → Nat → Int64) (x i : Nat) (L : List Lt) (l0 : Lt) (hx : x < 16) (hL : rowR I x L) (hn : L.length ≤ 40) (h0 : L[i]? = some l0) : Ct l G yX8_goes cX8_goes 4 none rm_X8_goes [.ref (o), .int (nI (x)), .int (nI (i))] (mw G o ad sc I J) (fun u : Nat → Nat → Int32 => mw G o ad sc u (up2 J 23 x (J 23 x + l0.2.1.toInt64))) (fun u : Nat → Nat → Int32 => none) (fun u : Nat → Nat → Int32 => rowR u x (L.eraseIdx i) ∧ fr (pS x) I u) := by
  refine Ct.of (by decide) (Nat.le_of_ble_eq_true rfl) (fun X A hX => ?_)
  subst hX
  refine V.to (lv' := [(0, .ref (o)), (1, .int (nI (x))), (2, .int (nI (i)))]) (st := []) (pc' := 0) rfl rfl rfl ?_
  have hil := lt_get h0
  have loop : ∀ (d : Nat) (j : Nat) (I1 : Nat → Nat → Int32), L.length - j < d → i ≤ j → j < L.length → I1 22 x = nI (L.length - 1) → (∀ a l, a < j → (L.eraseIdx i)[a]? = some l → ent I1 (40 * x + a) l) → (∀ a l, j ≤ a → L[a]? = some l → ent I1 (40 * x + a) l) → fr (pS x) I I1 → V G X yX8_goes cX8_goes 4 none rm_X8_goes A (MZ G X rm_X8_goes A (fun u : Nat → Nat → Int32 => mw G o ad sc u (up2 J 23 x (J 23 x + l0.2.1.toInt64))) (fun u : Nat → Nat → Int32 => none) (fun u : Nat → Nat → Int32 => rowR u x (L.eraseIdx i) ∧ fr (pS x) I u)) 0 0 (mw G o ad sc I1 (up2 J 23 x (J 23 x + l0.2.1.toInt64))) [(3, .int (nI (40 * x + j))), (0, .ref (o)), (1, .int (nI (x))), (2, .int (nI (i)))] 38 [] := by
    intro d
    induction d with
    | zero => intro j I1 hd; exact absurd hd (Nat.not_lt_zero _)
    | succ d ih =>
      intro j I1 hd hj1 hj2 h22 hlo hhi hfr
      refine V.iload_n dX8_goes_38 rfl rfl ?_
      refine V.bipush (v := nI (40)) dX8_goes_39 rfl ?_
      refine V.iload_n dX8_goes_41 rfl rfl ?_
      refine V.imul dX8_goes_42 ?_
      refine V.ei (pk_mul _ _) ?_
      refine V.aload_n dX8_goes_43 rfl rfl ?_
      refine Mg22 rfl dX8_goes_44 ?_
      refine V.iload_n dX8_goes_47 rfl rfl ?_
      refine Ml22 (x) rfl (by omega) dX8_goes_48 ?_
      refine V.ei (y := nI (L.length - 1)) h22 ?_
      refine V.iadd dX8_goes_49 ?_
      refine V.ei (nI_add _ _) ?_
      refine V.icmp_ge (tgt := 115) dX8_goes_50 (by decide) (fun c_1 => ?_) (fun c_1 => ?_)
      · have hc := (nI_leI (by omega) (by omega)).mp c_1
        have he : j = L.length - 1 := by omega
        exact V.vret I1 rfl rfl ⟨⟨by rw [h22, er_len hil], fun a l ha => hlo a l (by have := lt_get ha; rw [er_len hil] at this; omega) ha⟩, hfr⟩ rfl (by decide) (by decide) dX8_goes_115
      · have hc : j < L.length - 1 := by
          rcases Nat.lt_or_ge j (L.length - 1) with h | h
          · exact h
          · exact absurd (nI_le (by omega) (by omega)) c_1
        obtain ⟨l1, hl1⟩ := get_lt (L := L) (i := j + 1) (by omega)
        refine V.aload_n dX8_goes_53 rfl rfl ?_
        refine Mg30 rfl dX8_goes_54 ?_
        refine V.iload_n dX8_goes_57 rfl rfl ?_
        refine V.aload_n dX8_goes_58 rfl rfl ?_
        refine Mg30 rfl dX8_goes_59 ?_
        refine V.iload_n dX8_goes_62 rfl rfl ?_
        refine V.iconst (v := nI (1)) dX8_goes_63 rfl ?_
        refine V.iadd dX8_goes_64 ?_
        refine V.ei (nI_add _ _) ?_
        refine Ml30 ((40 * x + j) + (1)) rfl (by omega) dX8_goes_65 ?_
        refine V.ei (y := nI (l1.1)) (hhi (j + 1) l1 (by omega) hl1).1 ?_
        refine Ms30 (40 * x + j) rfl (by omega) dX8_goes_66 ?_
        refine V.aload_n dX8_goes_67 rfl rfl ?_
        refine Mg31 rfl dX8_goes_68 ?_
        refine V.iload_n dX8_goes_71 rfl rfl ?_
        refine V.aload_n dX8_goes_72 rfl rfl ?_
        refine Mg31 rfl dX8_goes_73 ?_
        refine V.iload_n dX8_goes_76 rfl rfl ?_
        refine V.iconst (v := nI (1)) dX8_goes_77 rfl ?_
        refine V.iadd dX8_goes_78 ?_
        refine V.ei (nI_add _ _) ?_
        refine Ml31 ((40 * x + j) + (1)) rfl (by omega) dX8_goes_79 ?_
        refine V.ei (y := l1.2.1) (hhi (j + 1) l1 (by omega) hl1).2.1 ?_
        refine Ms31 (40 * x + j) rfl (by omega) dX8_goes_80 ?_
        refine V.aload_n dX8_goes_81 rfl rfl ?_
        refine Mg32 rfl dX8_goes_82 ?_
        refine V.iload_n dX8_goes_85 rfl rfl ?_
        refine V.aload_n dX8_goes_86 rfl rfl ?_
        refine Mg32 rfl dX8_goes_87 ?_
        refine V.iload_n dX8_goes_90 rfl rfl ?_
        refine V.iconst (v := nI (1)) dX8_goes_91 rfl ?_
        refine V.iadd dX8_goes_92 ?_
        refine V.ei (nI_add _ _) ?_
        refine Ml32 ((40 * x + j) + (1)) rfl (by omega) dX8_goes_93 ?_
        refine V.ei (y := nI (l1.2.2.1)) (hhi (j + 1) l1 (by omega) hl1).2.2.1 ?_
        refine Ms32 (40 * x + j) rfl (by omega) dX8_goes_94 ?_
        refine V.aload_n dX8_goes_95 rfl rfl ?_
        refine Mg33 rfl dX8_goes_96 ?_
        refine V.iload_n dX8_goes_99 rfl rfl ?_
        refine V.aload_n dX8_goes_100 rfl rfl ?_
        refine Mg33 rfl dX8_goes_101 ?_
        refine V.iload_n dX8_goes_104 rfl rfl ?_
        refine V.iconst (v := nI (1)) dX8_goes_105 rfl ?_
        refine V.iadd dX8_goes_106 ?_
        refine V.ei (nI_add _ _) ?_
        refine Ml33 ((40 * x + j) + (1)) rfl (by omega) dX8_goes_107 ?_
        refine V.ei (y := bI l1.2.2.2) (hhi (j + 1) l1 (by omega) hl1).2.2.2 ?_
        refine Ms33 (40 * x + j) rfl (by omega) dX8_goes_108 ?_
        refine V.iinc (k := 0) (v := nI (40 * x + j + 1)) (lv' := [(3, .int (nI (40 * x + j + 1))), (0, .ref (o)), (1, .int (nI (x))), (2, .int (nI (i)))]) dX8_goes_109 rfl (iinc1 _) (by decide) rfl ?_
        refine V.goto (tgt := 38) dX8_goes_112 (by decide) ?_
        refine V.wd (ws' := mw G o ad sc (w4 I1 (40 * x + j) l1) (up2 J 23 x (J 23 x + l0.2.1.toInt64))) (by rw [nar_bI]; rfl) ?_
        refine V.pick [0, 1, 2, 3] (lv' := [(3, .int (nI (40 * x + j + 1))), (0, .ref (o)), (1, .int (nI (x))), (2, .int (nI (i)))]) rfl ?_
        exact ih (j + 1) _ (by omega) (by omega) (by omega) h22 (fun a l ha hal => by
          by_cases hq : a = j
          · subst hq; rw [goes_at hj1, hl1] at hal; cases hal; exact w4_same _ _ _
          · exact w4_other (by omega) (hlo a l (by omega) hal)) (fun a l ha hal => w4_other (by omega) (hhi a l (by omega) hal)) (hfr.tr (w4_fr ⟨by omega, by omega⟩))
  refine V.aload_n dX8_goes_0 rfl rfl ?_
  refine Mg23 rfl dX8_goes_1 ?_
  refine V.iload_n dX8_goes_4 rfl rfl ?_
  refine V.dup2_11 dX8_goes_5 rfl rfl ?_
  refine Ml23 (x) rfl (by omega) dX8_goes_6 ?_
  refine V.aload_n dX8_goes_7 rfl rfl ?_
  refine Mg31 rfl dX8_goes_8 ?_
  refine V.bipush (v := nI (40)) dX8_goes_11 rfl ?_
  refine V.iload_n dX8_goes_13 rfl rfl ?_
  refine V.imul dX8_goes_14 ?_
  refine V.ei (pk_mul _ _) ?_
  refine V.iload_n dX8_goes_15 rfl rfl ?_
  refine V.iadd dX8_goes_16 ?_
  refine V.ei (nI_add _ _) ?_
  refine Ml31 (((40) * (x)) + (i)) rfl (by omega) dX8_goes_17 ?_
  refine V.ei (y := l0.2.1) (hL.2 i l0 h0).2.1 ?_
  refine V.i2l dX8_goes_18 rfl ?_
  refine V.ladd dX8_goes_19 ?_
  refine Ms23 (x) rfl (by omega) dX8_goes_20 ?_
  refine V.aload_n dX8_goes_21 rfl rfl ?_
  refine Mg22 rfl dX8_goes_22 ?_
  refine V.iload_n dX8_goes_25 rfl rfl ?_
  refine V.dup2_11 dX8_goes_26 rfl rfl ?_
  refine Ml22 (x) rfl (by omega) dX8_goes_27 ?_
  refine V.ei (y := nI (L.length)) hL.1 ?_
  refine V.iconst (v := nI (1)) dX8_goes_28 rfl ?_
  refine V.isub dX8_goes_29 ?_
  refine V.ei (y := nI (L.length - 1)) (pk_sub (by omega)) ?_
  refine Ms22 (x) rfl (by omega) dX8_goes_30 ?_
  refine V.bipush (v := nI (40)) dX8_goes_31 rfl ?_
  refine V.iload_n dX8_goes_33 rfl rfl ?_
  refine V.imul dX8_goes_34 ?_
  refine V.ei (pk_mul _ _) ?_
  refine V.iload_n dX8_goes_35 rfl rfl ?_
  refine V.iadd dX8_goes_36 ?_
  refine V.ei (nI_add _ _) ?_
  refine V.istore_n (lv' := [(3, .int (nI (((40) * (x)) + (i)))), (0, .ref (o)), (1, .int (nI (x))), (2, .int (nI (i)))]) dX8_goes_37 rfl (by decide) rfl ?_
  refine V.pick [0, 1, 2, 3] (lv' := [(3, .int (nI (((40) * (x)) + (i)))), (0, .ref (o)), (1, .int (nI (x))), (2, .int (nI (i)))]) rfl ?_; exact loop (L.length + 1) i _ (by omega) (by omega) (by omega) (up2_s _ _ _ _) (fun a l ha hal => ent_fr (fr.up (P := fun k j => k = 22 ∧ j = x) ⟨rfl, rfl⟩) (hL.2 a l (by rw [goes_lo ha] at hal; exact hal)) (fun k h1 h2 h3 => by omega)) (fun a l ha hal => ent_fr (fr.up (P := fun k j => k = 22 ∧ j = x) ⟨rfl, rfl⟩) (hL.2 a l hal) (fun k h1 h2 h3 => by omega)) (fr.up (Or.inl ⟨rfl, rfl⟩))
set_option maxHeartbeats 4000000 in
set_option maxRecDepth 20000 in
theorem c_X8_takes (l : Launch) (G : GG) (o : Nat) (ad : Nat → Nat) (sc : Int32 × Int32 × Int32) (I : Nat → Nat → Int32) (J : Nat → Nat → Int64) (x n : Nat) (L : List Lt) (hx : x < 16) (hL : rowR I x L) (hn : L.length ≤ 40) (hb : ∀ l ∈ L, l.2.2.1 ≤ 50000) (hn2 : n ≤ 100000) : Ct l G yX8_takes cX8_takes 8 none rm_X8_takes [.ref (o), .int (nI (x)), .long (lN (n))] (mw G o ad sc I J) (fun u : Nat → Nat → Int32 => mw G o ad sc u (up2 J 23 x (tk n L (J 23 x)).2)) (fun u : Nat → Nat → Int32 => none) (fun u : Nat → Nat → Int32 => rowR u x (tk n L (J 23 x)).1 ∧ fr (pS x) I u) := by
  refine Ct.of (by decide) (Nat.le_of_ble_eq_true rfl) (fun X A hX => ?_)
  subst hX
  refine V.to (lv' := [(0, .ref (o)), (1, .int (nI (x))), (2, .long (lN (n)))]) (st := []) (pc' := 0) rfl rfl rfl ?_
  have loop : ∀ (d : Nat) (m : Nat) (L1 : List Lt) (I1 : Nat → Nat → Int32) (f1 : Int64), L1.length < d → rowR I1 x L1 → L1.length ≤ 40 → (∀ l ∈ L1, l.2.2.1 ≤ 50000) → m ≤ n → tk m L1 f1 = tk n L (J 23 x) → fr (pS x) I I1 → V G X yX8_takes cX8_takes 8 none rm_X8_takes A (MZ G X rm_X8_takes A (fun u : Nat → Nat → Int32 => mw G o ad sc u (up2 J 23 x (tk n L (J 23 x)).2)) (fun u : Nat → Nat → Int32 => none) (fun u : Nat → Nat → Int32 => rowR u x (tk n L (J 23 x)).1 ∧ fr (pS x) I u)) 0 0 (mw G o ad sc I1 (up2 J 23 x f1)) [(4, .long (lN (m))), (0, .ref (o)), (1, .int (nI (x))), (2, .long (lN (n)))] 3 [] := by
    intro d
    induction d with
    | zero => intro m L1 I1 f1 hd; exact absurd hd (Nat.not_lt_zero _)
    | succ d ih =>
      intro m L1 I1 f1 hd hr hl40 hb1 hm htk hfr
      refine V.lload dX8_takes_3 rfl ?_
      refine V.lconst (v := lN 0) dX8_takes_5 rfl ?_
      refine V.lc_le (tgt := 106) dX8_takes_6 dX8_takes_7 (by decide) (fun c_1 => ?_) (fun c_1 => ?_)
      · have hc := (pk_lLE (by omega) (by omega)).mp c_1
        have he : m = 0 := by omega
        subst he
        rw [tk_0] at htk
        exact V.vret I1 rfl rfl ⟨by rw [← htk]; exact hr, hfr⟩ (by rw [← htk]) (by decide) (by decide) dX8_takes_106
      · have h0 : 0 < m := by
          rcases Nat.eq_zero_or_pos m with h | h
          · subst h; exact absurd (by decide) c_1
          · exact h
        refine V.aload_n dX8_takes_10 rfl rfl ?_
        refine Mg22 rfl dX8_takes_11 ?_
        refine V.iload_n dX8_takes_14 rfl rfl ?_
        refine Ml22 (x) rfl (by omega) dX8_takes_15 ?_
        refine V.ei (y := nI (L1.length)) hr.1 ?_
        refine V.if_le (tgt := 106) dX8_takes_16 (by decide) (fun c_2 => ?_) (fun c_2 => ?_)
        · have he : L1 = [] := by
            cases L1 with
            | nil => rfl
            | cons a b => exact absurd c_2 (nI_nle (by simp) (by simp at hl40 ⊢; omega))
          subst he
          rw [tk_nil] at htk
          exact V.vret I1 rfl rfl ⟨by rw [← htk]; exact hr, hfr⟩ (by rw [← htk]) (by decide) (by decide) dX8_takes_106
        · obtain ⟨l, r, rfl⟩ : ∃ l r, L1 = l :: r := by
            cases L1 with
            | nil => exact absurd (by decide) c_2
            | cons a b => exact ⟨a, b, rfl⟩
          have hb0 := hb1 l List.mem_cons_self
          refine V.bipush (v := nI (40)) dX8_takes_19 rfl ?_
          refine V.iload_n dX8_takes_21 rfl rfl ?_
          refine V.imul dX8_takes_22 ?_
          refine V.ei (pk_mul _ _) ?_
          refine V.istore (lv' := [(6, .int (nI ((40) * (x)))), (4, .long (lN (m))), (0, .ref (o)), (1, .int (nI (x))), (2, .long (lN (n)))]) dX8_takes_23 (by decide) rfl ?_
          refine V.aload_n dX8_takes_25 rfl rfl ?_
          refine Mg32 rfl dX8_takes_26 ?_
          refine V.iload dX8_takes_29 rfl ?_
          refine Ml32 ((40) * (x)) rfl (by omega) dX8_takes_31 ?_
          refine V.ei (y := nI (l.2.2.1)) (hr.2 0 l rfl).2.2.1 ?_
          refine V.i2l (v := lN (l.2.2.1)) dX8_takes_32 (nI_l (by omega)) ?_
          refine V.lload dX8_takes_33 rfl ?_
          refine V.lc_ge (tgt := 49) dX8_takes_35 dX8_takes_36 (by decide) (fun c_3 => ?_) (fun c_3 => ?_)
          · have hge := (pk_lLE (by omega) (by omega)).mp c_3
            refine V.lload dX8_takes_49 rfl ?_
            refine V.l2i (v := nI (m)) dX8_takes_51 (lN_i _) ?_
            refine V.istore (lv' := [(7, .int (nI (m))), (6, .int (nI ((40) * (x)))), (4, .long (lN (m))), (0, .ref (o)), (1, .int (nI (x))), (2, .long (lN (n)))]) dX8_takes_52 (by decide) rfl ?_
            refine V.aload_n dX8_takes_54 rfl rfl ?_
            refine Mg32 rfl dX8_takes_55 ?_
            refine V.iload dX8_takes_58 rfl ?_
            refine V.dup2_11 dX8_takes_60 rfl rfl ?_
            refine Ml32 ((40) * (x)) rfl (by omega) dX8_takes_61 ?_
            refine V.ei (y := nI (l.2.2.1)) (hr.2 0 l rfl).2.2.1 ?_
            refine V.iload dX8_takes_62 rfl ?_
            refine V.isub dX8_takes_64 ?_
            refine V.ei (y := nI (l.2.2.1 - (m))) (pk_sub (by omega)) ?_
            refine Ms32 ((40) * (x)) rfl (by omega) dX8_takes_65 ?_
            refine V.aload_n dX8_takes_66 rfl rfl ?_
            refine Mg31 rfl dX8_takes_67 ?_
            refine V.iload dX8_takes_70 rfl ?_
            refine V.dup2_11 dX8_takes_72 rfl rfl ?_
            refine Ml31 ((40) * (x)) rfl (by omega) dX8_takes_73 ?_
            refine V.ei (y := l.2.1) (hr.2 0 l rfl).2.1 ?_
            refine V.iload dX8_takes_74 rfl ?_
            refine V.isub dX8_takes_76 ?_
            refine Ms31 ((40) * (x)) rfl (by omega) dX8_takes_77 ?_
            refine V.lload dX8_takes_78 rfl ?_
            refine V.iload dX8_takes_80 rfl ?_
            refine V.i2l (v := lN (m)) dX8_takes_82 (nI_l (by omega)) ?_
            refine V.lsub dX8_takes_83 ?_
            refine V.el (y := lN (m - (m))) (lN_sub (by omega)) ?_
            refine V.lstore (lv' := [(4, .long (lN (m - (m)))), (7, .int (nI (m))), (6, .int (nI ((40) * (x)))), (0, .ref (o)), (1, .int (nI (x))), (2, .long (lN (n)))]) dX8_takes_84 (by decide) rfl ?_
            refine V.aload_n dX8_takes_86 rfl rfl ?_
            refine Mg32 rfl dX8_takes_87 ?_
            refine V.iload dX8_takes_90 rfl ?_
            refine Ml32 ((40) * (x)) rfl (by omega) dX8_takes_92 ?_
            refine V.ei (y := nI (l.2.2.1 - (m))) (by rw [up2_k _ _ (by decide), up2_s]) ?_
            refine V.if_le (tgt := 97) dX8_takes_93 (by decide) (fun c_4 => ?_) (fun c_4 => ?_)
            · have hz : l.2.2.1 = m := by
                rcases Nat.lt_or_ge m l.2.2.1 with h | h
                · exact absurd c_4 (nI_nle (by omega) (by omega))
                · omega
              refine V.aload_n dX8_takes_97 rfl rfl ?_
              refine V.iload_n dX8_takes_98 rfl rfl ?_
              refine V.iconst (v := nI (0)) dX8_takes_99 rfl ?_
              refine V.callV0 (c_X8_goes _ G o ad sc (up2 (up2 I1 32 ((40) * (x)) (nI (l.2.2.1 - (m)))) 31 ((40) * (x)) ((l.2.1) - (nI (m)))) (up2 J 23 x f1) x 0 ((l.1, l.2.1 - nI (m), l.2.2.1 - (m), l.2.2.2) :: r) (l.1, l.2.1 - nI (m), l.2.2.1 - (m), l.2.2.2) hx (rowR_head hr) (by simpa using hl40) rfl) [] 0 9 rfl rfl rfl rfl (goodV kM_X8_165 kI_X8_goes kV_X8_goes kN_X8 kC_X8_goes) ds_X8_goes (by decide) (Nat.le_of_ble_eq_true rfl) dX8_takes_100 (by decide) (fun u hu => ?_)
              refine V.wd (ws' := mw G o ad sc u (up2 J 23 x (f1 + (l.2.1 - nI (m)).toInt64))) (by rw [up2_2, up2_s]) ?_
              refine V.to (lv' := [(4, .long (lN (m - (m)))), (7, .int (nI (m))), (6, .int (nI ((40) * (x)))), (0, .ref (o)), (1, .int (nI (x))), (2, .long (lN (n)))]) (st := []) (pc' := 103) rfl rfl rfl ?_
              refine V.goto (tgt := 3) dX8_takes_103 (by decide) ?_
              refine V.pick [0, 3, 4, 5] (lv' := [(4, .long (lN (m - (m)))), (0, .ref (o)), (1, .int (nI (x))), (2, .long (lN (n)))]) rfl ?_; exact ih _ r u _ (by simp at hd; omega) hu.1 (by simp at hl40; omega) (fun q hq => hb1 q (List.mem_cons_of_mem _ hq)) (by omega) (by rw [← htk, tk_ge h0 (by omega), hz]) ((hfr.tr head_fr).tr hu.2)
            · have hz : m < l.2.2.1 := by
                rcases Nat.lt_or_ge m l.2.2.1 with h | h
                · exact h
                · exact absurd (by rw [show l.2.2.1 - m = 0 by omega]; decide) c_4
              exact V.vret _ rfl rfl ⟨by rw [← htk, tk_lt h0 hz]; exact rowR_head hr, hfr.tr head_fr⟩ (by rw [← htk, tk_lt h0 hz]) (by decide) (by decide) dX8_takes_96
          · have hlt : l.2.2.1 < m := by
              rcases Nat.lt_or_ge l.2.2.1 m with h | h
              · exact h
              · exact absurd ((pk_lLE (by omega) (by omega)).mpr h) c_3
            refine V.aload_n dX8_takes_39 rfl rfl ?_
            refine Mg32 rfl dX8_takes_40 ?_
            refine V.iload dX8_takes_43 rfl ?_
            refine Ml32 ((40) * (x)) rfl (by omega) dX8_takes_45 ?_
            refine V.ei (y := nI (l.2.2.1)) (hr.2 0 l rfl).2.2.1 ?_
            refine V.goto (tgt := 52) dX8_takes_46 (by decide) ?_
            refine V.istore (lv' := [(7, .int (nI (l.2.2.1))), (6, .int (nI ((40) * (x)))), (4, .long (lN (m))), (0, .ref (o)), (1, .int (nI (x))), (2, .long (lN (n)))]) dX8_takes_52 (by decide) rfl ?_
            refine V.aload_n dX8_takes_54 rfl rfl ?_
            refine Mg32 rfl dX8_takes_55 ?_
            refine V.iload dX8_takes_58 rfl ?_
            refine V.dup2_11 dX8_takes_60 rfl rfl ?_
            refine Ml32 ((40) * (x)) rfl (by omega) dX8_takes_61 ?_
            refine V.ei (y := nI (l.2.2.1)) (hr.2 0 l rfl).2.2.1 ?_
            refine V.iload dX8_takes_62 rfl ?_
            refine V.isub dX8_takes_64 ?_
            refine V.ei (y := nI (l.2.2.1 - (l.2.2.1))) (pk_sub (by omega)) ?_
            refine Ms32 ((40) * (x)) rfl (by omega) dX8_takes_65 ?_
            refine V.aload_n dX8_takes_66 rfl rfl ?_
            refine Mg31 rfl dX8_takes_67 ?_
            refine V.iload dX8_takes_70 rfl ?_
            refine V.dup2_11 dX8_takes_72 rfl rfl ?_
            refine Ml31 ((40) * (x)) rfl (by omega) dX8_takes_73 ?_
            refine V.ei (y := l.2.1) (hr.2 0 l rfl).2.1 ?_
            refine V.iload dX8_takes_74 rfl ?_
            refine V.isub dX8_takes_76 ?_
            refine Ms31 ((40) * (x)) rfl (by omega) dX8_takes_77 ?_
            refine V.lload dX8_takes_78 rfl ?_
            refine V.iload dX8_takes_80 rfl ?_
            refine V.i2l (v := lN (l.2.2.1)) dX8_takes_82 (nI_l (by omega)) ?_
            refine V.lsub dX8_takes_83 ?_
            refine V.el (y := lN (m - (l.2.2.1))) (lN_sub (by omega)) ?_
            refine V.lstore (lv' := [(4, .long (lN (m - (l.2.2.1)))), (7, .int (nI (l.2.2.1))), (6, .int (nI ((40) * (x)))), (0, .ref (o)), (1, .int (nI (x))), (2, .long (lN (n)))]) dX8_takes_84 (by decide) rfl ?_
            refine V.aload_n dX8_takes_86 rfl rfl ?_
            refine Mg32 rfl dX8_takes_87 ?_
            refine V.iload dX8_takes_90 rfl ?_
            refine Ml32 ((40) * (x)) rfl (by omega) dX8_takes_92 ?_
            refine V.ei (y := nI (l.2.2.1 - (l.2.2.1))) (by rw [up2_k _ _ (by decide), up2_s]) ?_
            refine V.if_le (tgt := 97) dX8_takes_93 (by decide) (fun c_5 => ?_) (fun c_5 => ?_)
            · refine V.aload_n dX8_takes_97 rfl rfl ?_
              refine V.iload_n dX8_takes_98 rfl rfl ?_
              refine V.iconst (v := nI (0)) dX8_takes_99 rfl ?_
              refine V.callV0 (c_X8_goes _ G o ad sc (up2 (up2 I1 32 ((40) * (x)) (nI (l.2.2.1 - (l.2.2.1)))) 31 ((40) * (x)) ((l.2.1) - (nI (l.2.2.1)))) (up2 J 23 x f1) x 0 ((l.1, l.2.1 - nI (l.2.2.1), l.2.2.1 - (l.2.2.1), l.2.2.2) :: r) (l.1, l.2.1 - nI (l.2.2.1), l.2.2.1 - (l.2.2.1), l.2.2.2) hx (rowR_head hr) (by simpa using hl40) rfl) [] 0 9 rfl rfl rfl rfl (goodV kM_X8_165 kI_X8_goes kV_X8_goes kN_X8 kC_X8_goes) ds_X8_goes (by decide) (Nat.le_of_ble_eq_true rfl) dX8_takes_100 (by decide) (fun u hu => ?_)
              refine V.wd (ws' := mw G o ad sc u (up2 J 23 x (f1 + (l.2.1 - nI (l.2.2.1)).toInt64))) (by rw [up2_2, up2_s]) ?_
              refine V.to (lv' := [(4, .long (lN (m - (l.2.2.1)))), (7, .int (nI (l.2.2.1))), (6, .int (nI ((40) * (x)))), (0, .ref (o)), (1, .int (nI (x))), (2, .long (lN (n)))]) (st := []) (pc' := 103) rfl rfl rfl ?_
              refine V.goto (tgt := 3) dX8_takes_103 (by decide) ?_
              refine V.pick [0, 3, 4, 5] (lv' := [(4, .long (lN (m - (l.2.2.1)))), (0, .ref (o)), (1, .int (nI (x))), (2, .long (lN (n)))]) rfl ?_; exact ih _ r u _ (by simp at hd; omega) hu.1 (by simp at hl40; omega) (fun q hq => hb1 q (List.mem_cons_of_mem _ hq)) (by omega) (by rw [← htk, tk_ge h0 (by omega)]) ((hfr.tr head_fr).tr hu.2)
            · exact absurd (by rw [Nat.sub_self]; decide) c_5
  refine V.wd (ws' := mw G o ad sc I (up2 J 23 x (J 23 x))) (by rw [up2_id]) ?_
  refine V.lload_n dX8_takes_0 rfl rfl ?_
  refine V.lstore (lv' := [(4, .long (lN (n))), (0, .ref (o)), (1, .int (nI (x))), (2, .long (lN (n)))]) dX8_takes_1 (by decide) rfl ?_
  refine V.pick [0, 1, 2, 3] (lv' := [(4, .long (lN (n))), (0, .ref (o)), (1, .int (nI (x))), (2, .long (lN (n)))]) rfl ?_; exact loop (L.length + 1) n L I (J 23 x) (by omega) hL hn hb (by omega) rfl fr.rf
set_option maxHeartbeats 4000000 in
set_option maxRecDepth 20000 in
theorem c_X8_comes (l : Launch) (G : GG) (o : Nat) (ad : Nat → Nat) (sc : Int32 × Int32 × Int32) (I : Nat → Nat → Int32) (J : Nat → Nat → Int64) (x n now : Nat) (L : List Lt) (hx : x < 16) (hL : rowR I x L) (hn : L.length ≤ 40) (hn2 : n ≤ 100000) (hmo : ∀ l ∈ L, l.1 ≤ 4000) (hno : now ≤ 4000) : Ct l G yX8_comes cX8_comes 6 none rm_X8_comes [.ref (o), .int (nI (x)), .long (lN (n)), .int (nI (now))] (mw G o ad sc I J) (fun u : Nat → Nat → Int32 => mw G o ad sc u J) (fun u : Nat → Nat → Int32 => none) (fun u : Nat → Nat → Int32 => rowR u x (pt n now L) ∧ fr (pS x) I u) := by
  refine Ct.of (by decide) (Nat.le_of_ble_eq_true rfl) (fun X A hX => ?_)
  subst hX
  refine V.to (lv' := [(0, .ref (o)), (1, .int (nI (x))), (2, .long (lN (n))), (4, .int (nI (now)))]) (st := []) (pc' := 0) rfl rfl rfl ?_
  refine V.lload_n dX8_comes_0 rfl rfl ?_
  refine V.lconst (v := lN 0) dX8_comes_1 rfl ?_
  refine V.lc_ne (tgt := 7) dX8_comes_2 dX8_comes_3 (by decide) (fun c_1 => ?_) (fun c_1 => ?_)
  · have hn0 : n ≠ 0 := fun q => c_1 (by rw [q])
    refine V.bipush (v := nI (40)) dX8_comes_7 rfl ?_
    refine V.iload_n dX8_comes_9 rfl rfl ?_
    refine V.imul dX8_comes_10 ?_
    refine V.ei (pk_mul _ _) ?_
    refine V.aload_n dX8_comes_11 rfl rfl ?_
    refine Mg22 rfl dX8_comes_12 ?_
    refine V.iload_n dX8_comes_15 rfl rfl ?_
    refine Ml22 (x) rfl (by omega) dX8_comes_16 ?_
    refine V.ei (y := nI (L.length)) hL.1 ?_
    refine V.iadd dX8_comes_17 ?_
    refine V.ei (nI_add _ _) ?_
    refine V.iconst (v := nI (1)) dX8_comes_18 rfl ?_
    refine V.isub dX8_comes_19 ?_
    refine V.istore (lv' := [(5, .int ((nI (((40) * (x)) + (L.length))) - (nI (1)))), (0, .ref (o)), (1, .int (nI (x))), (2, .long (lN (n))), (4, .int (nI (now)))]) dX8_comes_20 (by decide) rfl ?_
    refine V.aload_n dX8_comes_22 rfl rfl ?_
    refine Mg22 rfl dX8_comes_23 ?_
    refine V.iload_n dX8_comes_26 rfl rfl ?_
    refine Ml22 (x) rfl (by omega) dX8_comes_27 ?_
    refine V.ei (y := nI (L.length)) hL.1 ?_
    refine V.if_eq (tgt := 54) dX8_comes_28 (by decide) (fun c_2 => ?_) (fun c_2 => ?_)
    · have he : L = [] := by
        cases L with
        | nil => rfl
        | cons a b => exact absurd c_2 (nI_ne0 (by simp) (by simp at hn ⊢; omega))
      have hlt : L.length < 40 := by rw [he]; decide
      refine V.iinc (k := 0) (v := nI (40 * x + L.length)) (lv' := [(5, .int (nI (40 * x + L.length))), (0, .ref (o)), (1, .int (nI (x))), (2, .long (lN (n))), (4, .int (nI (now)))]) dX8_comes_54 rfl (sub1_inc _) (by decide) rfl ?_
      refine V.aload_n dX8_comes_57 rfl rfl ?_
      refine Mg22 rfl dX8_comes_58 ?_
      refine V.iload_n dX8_comes_61 rfl rfl ?_
      refine V.dup2_11 dX8_comes_62 rfl rfl ?_
      refine Ml22 (x) rfl (by omega) dX8_comes_63 ?_
      refine V.ei (y := nI (L.length)) hL.1 ?_
      refine V.iconst (v := nI (1)) dX8_comes_64 rfl ?_
      refine V.iadd dX8_comes_65 ?_
      refine V.ei (nI_add _ _) ?_
      refine Ms22 (x) rfl (by omega) dX8_comes_66 ?_
      refine V.aload_n dX8_comes_67 rfl rfl ?_
      refine Mg30 rfl dX8_comes_68 ?_
      refine V.iload dX8_comes_71 rfl ?_
      refine V.iload dX8_comes_73 rfl ?_
      refine Ms30 (40 * x + L.length) rfl (by omega) dX8_comes_75 ?_
      refine V.aload_n dX8_comes_76 rfl rfl ?_
      refine Mg31 rfl dX8_comes_77 ?_
      refine V.iload dX8_comes_80 rfl ?_
      refine V.iconst (v := nI (0)) dX8_comes_82 rfl ?_
      refine Ms31 (40 * x + L.length) rfl (by omega) dX8_comes_83 ?_
      refine V.aload_n dX8_comes_84 rfl rfl ?_
      refine Mg32 rfl dX8_comes_85 ?_
      refine V.iload dX8_comes_88 rfl ?_
      refine V.iconst (v := nI (0)) dX8_comes_90 rfl ?_
      refine Ms32 (40 * x + L.length) rfl (by omega) dX8_comes_91 ?_
      refine V.aload_n dX8_comes_92 rfl rfl ?_
      refine Mg31 rfl dX8_comes_93 ?_
      refine V.iload dX8_comes_96 rfl ?_
      refine V.dup2_11 dX8_comes_98 rfl rfl ?_
      refine Ml31 (40 * x + L.length) rfl (by omega) dX8_comes_99 ?_
      refine V.ei (y := nI (0)) (by simp [up2]) ?_
      refine V.lload_n dX8_comes_100 rfl rfl ?_
      refine V.l2i (v := nI (n)) dX8_comes_101 (lN_i _) ?_
      refine V.iadd dX8_comes_102 ?_
      refine V.ei (nI_add _ _) ?_
      refine Ms31 (40 * x + L.length) rfl (by omega) dX8_comes_103 ?_
      refine V.aload_n dX8_comes_104 rfl rfl ?_
      refine Mg32 rfl dX8_comes_105 ?_
      refine V.iload dX8_comes_108 rfl ?_
      refine V.dup2_11 dX8_comes_110 rfl rfl ?_
      refine Ml32 (40 * x + L.length) rfl (by omega) dX8_comes_111 ?_
      refine V.ei (y := nI (0)) (by simp [up2]) ?_
      refine V.lload_n dX8_comes_112 rfl rfl ?_
      refine V.l2i (v := nI (n)) dX8_comes_113 (lN_i _) ?_
      refine V.iadd dX8_comes_114 ?_
      refine V.ei (nI_add _ _) ?_
      refine Ms32 (40 * x + L.length) rfl (by omega) dX8_comes_115 ?_
      refine V.aload_n dX8_comes_116 rfl rfl ?_
      refine Mg33 rfl dX8_comes_117 ?_
      refine V.iload dX8_comes_120 rfl ?_
      refine V.iconst (v := nI (0)) dX8_comes_122 rfl ?_
      refine Ms33 (40 * x + L.length) rfl (by omega) dX8_comes_123 ?_
      exact V.vret _ rfl rfl (by rw [show pt n now L = L ++ [(now, nI n, n, false)] by rw [he, pt_nil hn0]]; exact row_new hL hlt (by simp [up2]) (by simp [up2]) (by simp [up2]) (by simp [up2]) (by simp [up2]; decide) (fun k j z1 z2 => by rw [up2_n _ _ (by omega), up2_n _ _ (by omega), up2_n _ _ (by omega), up2_n _ _ (by omega), up2_n _ _ (by omega), up2_n _ _ (by omega), up2_n _ _ (by omega)])) rfl (by decide) (by decide) dX8_comes_124
    · have hp : 0 < L.length := by
        rcases Nat.eq_zero_or_pos L.length with h | h
        · exact absurd (by rw [h]; rfl) c_2
        · exact h
      obtain ⟨l, hl⟩ := get_lt (L := L) (i := L.length - 1) (by omega)
      have hml := hmo l (List.mem_of_getElem? hl)
      refine V.to (lv' := [(5, .int (nI (40 * x + (L.length - 1)))), (0, .ref (o)), (1, .int (nI (x))), (2, .long (lN (n))), (4, .int (nI (now)))]) (st := []) (by rw [pk_sub (by omega)]; congr 5; omega) rfl rfl ?_
      refine V.aload_n dX8_comes_31 rfl rfl ?_
      refine Mg30 rfl dX8_comes_32 ?_
      refine V.iload dX8_comes_35 rfl ?_
      refine Ml30 (40 * x + (L.length - 1)) rfl (by omega) dX8_comes_37 ?_
      refine V.ei (y := nI (l.1)) (hL.2 _ l hl).1 ?_
      refine V.iload dX8_comes_38 rfl ?_
      refine V.icmp_eq (tgt := 92) dX8_comes_40 (by decide) (fun c_3 => ?_) (fun c_3 => ?_)
      · have hq : l.1 = now ∨ 40 ≤ L.length := Or.inl ((nI_eq (by omega) (by omega)).mp c_3)
        refine V.aload_n dX8_comes_92 rfl rfl ?_
        refine Mg31 rfl dX8_comes_93 ?_
        refine V.iload dX8_comes_96 rfl ?_
        refine V.dup2_11 dX8_comes_98 rfl rfl ?_
        refine Ml31 (40 * x + (L.length - 1)) rfl (by omega) dX8_comes_99 ?_
        refine V.ei (y := l.2.1) (hL.2 _ l hl).2.1 ?_
        refine V.lload_n dX8_comes_100 rfl rfl ?_
        refine V.l2i (v := nI (n)) dX8_comes_101 (lN_i _) ?_
        refine V.iadd dX8_comes_102 ?_
        refine Ms31 (40 * x + (L.length - 1)) rfl (by omega) dX8_comes_103 ?_
        refine V.aload_n dX8_comes_104 rfl rfl ?_
        refine Mg32 rfl dX8_comes_105 ?_
        refine V.iload dX8_comes_108 rfl ?_
        refine V.dup2_11 dX8_comes_110 rfl rfl ?_
        refine Ml32 (40 * x + (L.length - 1)) rfl (by omega) dX8_comes_111 ?_
        refine V.ei (y := nI (l.2.2.1)) (hL.2 _ l hl).2.2.1 ?_
        refine V.lload_n dX8_comes_112 rfl rfl ?_
        refine V.l2i (v := nI (n)) dX8_comes_113 (lN_i _) ?_
        refine V.iadd dX8_comes_114 ?_
        refine V.ei (nI_add _ _) ?_
        refine Ms32 (40 * x + (L.length - 1)) rfl (by omega) dX8_comes_115 ?_
        refine V.aload_n dX8_comes_116 rfl rfl ?_
        refine Mg33 rfl dX8_comes_117 ?_
        refine V.iload dX8_comes_120 rfl ?_
        refine V.iconst (v := nI (0)) dX8_comes_122 rfl ?_
        refine Ms33 (40 * x + (L.length - 1)) rfl (by omega) dX8_comes_123 ?_
        exact V.vret _ rfl rfl (by rw [pt_mod hn0 hl hq]; exact row_mod hL hn hl (by simp [up2]) (by simp [up2]) (by simp [up2]; decide) (fun k j z => by rw [up2_n _ _ (by omega), up2_n _ _ (by omega), up2_n _ _ (by omega)])) rfl (by decide) (by decide) dX8_comes_124
      · have hne : l.1 ≠ now := fun q => c_3 (by rw [q])
        refine V.aload_n dX8_comes_43 rfl rfl ?_
        refine Mg22 rfl dX8_comes_44 ?_
        refine V.iload_n dX8_comes_47 rfl rfl ?_
        refine Ml22 (x) rfl (by omega) dX8_comes_48 ?_
        refine V.ei (y := nI (L.length)) hL.1 ?_
        refine V.bipush (v := nI (40)) dX8_comes_49 rfl ?_
        refine V.icmp_ge (tgt := 92) dX8_comes_51 (by decide) (fun c_4 => ?_) (fun c_4 => ?_)
        · have hq : l.1 = now ∨ 40 ≤ L.length := Or.inr ((nI_leI (by omega) (by omega)).mp c_4)
          refine V.aload_n dX8_comes_92 rfl rfl ?_
          refine Mg31 rfl dX8_comes_93 ?_
          refine V.iload dX8_comes_96 rfl ?_
          refine V.dup2_11 dX8_comes_98 rfl rfl ?_
          refine Ml31 (40 * x + (L.length - 1)) rfl (by omega) dX8_comes_99 ?_
          refine V.ei (y := l.2.1) (hL.2 _ l hl).2.1 ?_
          refine V.lload_n dX8_comes_100 rfl rfl ?_
          refine V.l2i (v := nI (n)) dX8_comes_101 (lN_i _) ?_
          refine V.iadd dX8_comes_102 ?_
          refine Ms31 (40 * x + (L.length - 1)) rfl (by omega) dX8_comes_103 ?_
          refine V.aload_n dX8_comes_104 rfl rfl ?_
          refine Mg32 rfl dX8_comes_105 ?_
          refine V.iload dX8_comes_108 rfl ?_
          refine V.dup2_11 dX8_comes_110 rfl rfl ?_
          refine Ml32 (40 * x + (L.length - 1)) rfl (by omega) dX8_comes_111 ?_
          refine V.ei (y := nI (l.2.2.1)) (hL.2 _ l hl).2.2.1 ?_
          refine V.lload_n dX8_comes_112 rfl rfl ?_
          refine V.l2i (v := nI (n)) dX8_comes_113 (lN_i _) ?_
          refine V.iadd dX8_comes_114 ?_
          refine V.ei (nI_add _ _) ?_
          refine Ms32 (40 * x + (L.length - 1)) rfl (by omega) dX8_comes_115 ?_
          refine V.aload_n dX8_comes_116 rfl rfl ?_
          refine Mg33 rfl dX8_comes_117 ?_
          refine V.iload dX8_comes_120 rfl ?_
          refine V.iconst (v := nI (0)) dX8_comes_122 rfl ?_
          refine Ms33 (40 * x + (L.length - 1)) rfl (by omega) dX8_comes_123 ?_
          exact V.vret _ rfl rfl (by rw [pt_mod hn0 hl hq]; exact row_mod hL hn hl (by simp [up2]) (by simp [up2]) (by simp [up2]; decide) (fun k j z => by rw [up2_n _ _ (by omega), up2_n _ _ (by omega), up2_n _ _ (by omega)])) rfl (by decide) (by decide) dX8_comes_124
        · have hlt : L.length < 40 := by
            rcases Nat.lt_or_ge L.length 40 with h | h
            · exact h
            · exact absurd (nI_le h (by omega)) c_4
          refine V.iinc (k := 0) (v := nI (40 * x + L.length)) (lv' := [(5, .int (nI (40 * x + L.length))), (0, .ref (o)), (1, .int (nI (x))), (2, .long (lN (n))), (4, .int (nI (now)))]) dX8_comes_54 rfl (by rw [iinc1]; congr 1; omega) (by decide) rfl ?_
          refine V.aload_n dX8_comes_57 rfl rfl ?_
          refine Mg22 rfl dX8_comes_58 ?_
          refine V.iload_n dX8_comes_61 rfl rfl ?_
          refine V.dup2_11 dX8_comes_62 rfl rfl ?_
          refine Ml22 (x) rfl (by omega) dX8_comes_63 ?_
          refine V.ei (y := nI (L.length)) hL.1 ?_
          refine V.iconst (v := nI (1)) dX8_comes_64 rfl ?_
          refine V.iadd dX8_comes_65 ?_
          refine V.ei (nI_add _ _) ?_
          refine Ms22 (x) rfl (by omega) dX8_comes_66 ?_
          refine V.aload_n dX8_comes_67 rfl rfl ?_
          refine Mg30 rfl dX8_comes_68 ?_
          refine V.iload dX8_comes_71 rfl ?_
          refine V.iload dX8_comes_73 rfl ?_
          refine Ms30 (40 * x + L.length) rfl (by omega) dX8_comes_75 ?_
          refine V.aload_n dX8_comes_76 rfl rfl ?_
          refine Mg31 rfl dX8_comes_77 ?_
          refine V.iload dX8_comes_80 rfl ?_
          refine V.iconst (v := nI (0)) dX8_comes_82 rfl ?_
          refine Ms31 (40 * x + L.length) rfl (by omega) dX8_comes_83 ?_
          refine V.aload_n dX8_comes_84 rfl rfl ?_
          refine Mg32 rfl dX8_comes_85 ?_
          refine V.iload dX8_comes_88 rfl ?_
          refine V.iconst (v := nI (0)) dX8_comes_90 rfl ?_
          refine Ms32 (40 * x + L.length) rfl (by omega) dX8_comes_91 ?_
          refine V.aload_n dX8_comes_92 rfl rfl ?_
          refine Mg31 rfl dX8_comes_93 ?_
          refine V.iload dX8_comes_96 rfl ?_
          refine V.dup2_11 dX8_comes_98 rfl rfl ?_
          refine Ml31 (40 * x + L.length) rfl (by omega) dX8_comes_99 ?_
          refine V.ei (y := nI (0)) (by simp [up2]) ?_
          refine V.lload_n dX8_comes_100 rfl rfl ?_
          refine V.l2i (v := nI (n)) dX8_comes_101 (lN_i _) ?_
          refine V.iadd dX8_comes_102 ?_
          refine V.ei (nI_add _ _) ?_
          refine Ms31 (40 * x + L.length) rfl (by omega) dX8_comes_103 ?_
          refine V.aload_n dX8_comes_104 rfl rfl ?_
          refine Mg32 rfl dX8_comes_105 ?_
          refine V.iload dX8_comes_108 rfl ?_
          refine V.dup2_11 dX8_comes_110 rfl rfl ?_
          refine Ml32 (40 * x + L.length) rfl (by omega) dX8_comes_111 ?_
          refine V.ei (y := nI (0)) (by simp [up2]) ?_
          refine V.lload_n dX8_comes_112 rfl rfl ?_
          refine V.l2i (v := nI (n)) dX8_comes_113 (lN_i _) ?_
          refine V.iadd dX8_comes_114 ?_
          refine V.ei (nI_add _ _) ?_
          refine Ms32 (40 * x + L.length) rfl (by omega) dX8_comes_115 ?_
          refine V.aload_n dX8_comes_116 rfl rfl ?_
          refine Mg33 rfl dX8_comes_117 ?_
          refine V.iload dX8_comes_120 rfl ?_
          refine V.iconst (v := nI (0)) dX8_comes_122 rfl ?_
          refine Ms33 (40 * x + L.length) rfl (by omega) dX8_comes_123 ?_
          exact V.vret _ rfl rfl (by rw [pt_new hn0 hl hne hlt]; exact row_new hL hlt (by simp [up2]) (by simp [up2]) (by simp [up2]) (by simp [up2]) (by simp [up2]; decide) (fun k j z1 z2 => by rw [up2_n _ _ (by omega), up2_n _ _ (by omega), up2_n _ _ (by omega), up2_n _ _ (by omega), up2_n _ _ (by omega), up2_n _ _ (by omega), up2_n _ _ (by omega)])) rfl (by decide) (by decide) dX8_comes_124
  · have he : n = 0 := (pk_lEQ (by omega) (by omega)).mp c_1
    subst he
    exact V.vret I rfl rfl ⟨by rw [pt_0]; exact hL, fr.rf⟩ rfl (by decide) (by decide) dX8_comes_6
set_option maxHeartbeats 4000000 in
set_option maxRecDepth 20000 in
theorem c_X8_space (l : Launch) (G : GG) (o : Nat) (ad : Nat → Nat) (sc : Int32 × Int32 × Int32) (I : Nat → Nat → Int32) (J : Nat → Nat → Int64) (g t r : Nat) (L : List Lt) (ht : t < 8) (hx : 8 * g + t < 16) (hr : I 8 t = nI r) (hr2 : r ≤ 50000) (hL : rowR I (8 * g + t) L) (ok : okL L) : Ct l G yX8_space cX8_space 3 (some .long) rm_X8_space [.ref (o), .int (nI (g)), .int (nI (t))] (mw G o ad sc I J) (fun u : Unit => (mw G o ad sc I J)) (fun u : Unit => some (.long (lN (r - tsum L)))) (fun u : Unit => True) := by
  refine Ct.of (by decide) (Nat.le_of_ble_eq_true rfl) (fun X A hX => ?_)
  subst hX
  refine V.to (lv' := [(0, .ref (o)), (1, .int (nI (g))), (2, .int (nI (t)))]) (st := []) (pc' := 0) rfl rfl rfl ?_
  have hto := ok.2.1
  refine V.aload_n dX8_space_0 rfl rfl ?_
  refine Mg8 rfl dX8_space_1 ?_
  refine V.iload_n dX8_space_4 rfl rfl ?_
  refine Ml8 (t) rfl (by omega) dX8_space_5 ?_
  refine V.ei (y := nI (r)) hr ?_
  refine V.i2l (v := lN (r)) dX8_space_6 (nI_l (by omega)) ?_
  refine V.aload_n dX8_space_7 rfl rfl ?_
  refine V.bipush (v := nI (8)) dX8_space_8 rfl ?_
  refine V.iload_n dX8_space_10 rfl rfl ?_
  refine V.imul dX8_space_11 ?_
  refine V.ei (pk_mul _ _) ?_
  refine V.iload_n dX8_space_12 rfl rfl ?_
  refine V.iadd dX8_space_13 ?_
  refine V.ei (nI_add _ _) ?_
  refine V.callV0 (c_X8_trueIn _ G o ad sc I J (((8) * (g)) + (t)) L hx hL ok) [.long (lN (r))] 0 9 rfl rfl rfl rfl (goodV kM_X8_169 kI_X8_trueIn kV_X8_trueIn kN_X8 kC_X8_trueIn) ds_X8_trueIn (by decide) (Nat.le_of_ble_eq_true rfl) dX8_space_14 (by decide) (fun u hu => ?_)
  refine V.to (lv' := [(0, .ref (o)), (1, .int (nI (g))), (2, .int (nI (t)))]) (st := [.long (lN (tsum L)), .long (lN (r))]) (pc' := 17) rfl rfl rfl ?_
  refine V.lc_le (tgt := 42) dX8_space_17 dX8_space_18 (by decide) (fun c_1 => ?_) (fun c_1 => ?_)
  · have hc := (pk_lLE (by omega) (by omega)).mp c_1
    refine V.lconst (v := lN 0) dX8_space_42 rfl ?_
    exact V.lret () rfl (by rw [show r - tsum L = 0 by omega]) trivial rfl (by decide) (by decide) dX8_space_43
  · have hc : tsum L < r := by
      rcases Nat.lt_or_ge (tsum L) r with h | h
      · exact h
      · exact absurd ((pk_lLE (by omega) (by omega)).mpr h) c_1
    refine V.aload_n dX8_space_21 rfl rfl ?_
    refine Mg8 rfl dX8_space_22 ?_
    refine V.iload_n dX8_space_25 rfl rfl ?_
    refine Ml8 (t) rfl (by omega) dX8_space_26 ?_
    refine V.ei (y := nI (r)) hr ?_
    refine V.i2l (v := lN (r)) dX8_space_27 (nI_l (by omega)) ?_
    refine V.aload_n dX8_space_28 rfl rfl ?_
    refine V.bipush (v := nI (8)) dX8_space_29 rfl ?_
    refine V.iload_n dX8_space_31 rfl rfl ?_
    refine V.imul dX8_space_32 ?_
    refine V.ei (pk_mul _ _) ?_
    refine V.iload_n dX8_space_33 rfl rfl ?_
    refine V.iadd dX8_space_34 ?_
    refine V.ei (nI_add _ _) ?_
    refine V.callV0 (c_X8_trueIn _ G o ad sc I J (((8) * (g)) + (t)) L hx hL ok) [.long (lN (r))] 0 9 rfl rfl rfl rfl (goodV kM_X8_169 kI_X8_trueIn kV_X8_trueIn kN_X8 kC_X8_trueIn) ds_X8_trueIn (by decide) (Nat.le_of_ble_eq_true rfl) dX8_space_35 (by decide) (fun u hu => ?_)
    refine V.to (lv' := [(0, .ref (o)), (1, .int (nI (g))), (2, .int (nI (t)))]) (st := [.long (lN (tsum L)), .long (lN (r))]) (pc' := 38) rfl rfl rfl ?_
    refine V.lsub dX8_space_38 ?_
    refine V.el (y := lN (r - tsum L)) (lN_sub (by omega)) ?_
    refine V.goto (tgt := 43) dX8_space_39 (by decide) ?_
    exact V.lret () rfl rfl trivial rfl (by decide) (by decide) dX8_space_43
set_option maxHeartbeats 4000000 in
set_option maxRecDepth 20000 in
theorem c_X8_price (l : Launch) (G : GG) (o : Nat) (ad : Nat → Nat) (sc : Int32 × Int32 × Int32) (I : Nat → Nat → Int32) (J : Nat → Nat → Int64) (x t e m : Nat) (ht : t < 8) (hx : x < 16) (he : I 7 t = nI e) (he1 : 1 ≤ e) (he2 : e ≤ 1000) (hm : J 21 x = lN m) (hm2 : m < 2 ^ 60) : Ct l G yX8_price cX8_price 3 (some .long) rm_X8_price [.ref (o), .int (nI (x)), .int (nI (t))] (mw G o ad sc I J) (fun u : Unit => (mw G o ad sc I J)) (fun u : Unit => some (.long (lN (1000 * e / (m + e))))) (fun u : Unit => True) := by
  refine Ct.of (by decide) (Nat.le_of_ble_eq_true rfl) (fun X A hX => ?_)
  subst hX
  refine V.to (lv' := [(0, .ref (o)), (1, .int (nI (x))), (2, .int (nI (t)))]) (st := []) (pc' := 0) rfl rfl rfl ?_
  refine V.ldc2 (v := 1000) kK_X8_146 dX8_price_0 ?_
  refine V.el (y := lN 1000) rfl ?_
  refine V.aload_n dX8_price_3 rfl rfl ?_
  refine Mg7 rfl dX8_price_4 ?_
  refine V.iload_n dX8_price_7 rfl rfl ?_
  refine Ml7 (t) rfl (by omega) dX8_price_8 ?_
  refine V.ei (y := nI (e)) he ?_
  refine V.i2l (v := lN (e)) dX8_price_9 (nI_l (by omega)) ?_
  refine V.lmul dX8_price_10 ?_
  refine V.el (lN_mul _ _) ?_
  refine V.aload_n dX8_price_11 rfl rfl ?_
  refine Mg21 rfl dX8_price_12 ?_
  refine V.iload_n dX8_price_15 rfl rfl ?_
  refine Ml21 (x) rfl (by omega) dX8_price_16 ?_
  refine V.el (y := lN (m)) hm ?_
  refine V.aload_n dX8_price_17 rfl rfl ?_
  refine Mg7 rfl dX8_price_18 ?_
  refine V.iload_n dX8_price_21 rfl rfl ?_
  refine Ml7 (t) rfl (by omega) dX8_price_22 ?_
  refine V.ei (y := nI (e)) he ?_
  refine V.i2l (v := lN (e)) dX8_price_23 (nI_l (by omega)) ?_
  refine V.ladd dX8_price_24 ?_
  refine V.el (lN_add _ _) ?_
  refine V.ldiv dX8_price_25 (fun h => by have := (pk_lEQ (a := m + e) (b := 0) (by omega) (by omega)).mp h; omega) ?_
  refine V.el (y := lN (1000 * e / (m + e))) (pk_lDiv (by omega) (by omega) (by omega)) ?_
  exact V.lret () rfl rfl trivial rfl (by decide) (by decide) dX8_price_26
end
section
/-! a STORE with its MARKET: MARKET, OWES; HUNGER, spoilt, bought, sold, stolen, FOUND ever; LOTS -/
abbrev ST : Type := (Nat × Nat) × (Int64 × Int64 × Int64 × Int64 × Int64 × Int64) × List Lt
def rcv (R n mo : Nat) (s : ST) : ST := ((s.1.1 + (n - min n (R - tsum s.2.2)), s.1.2), s.2.1, pt (min n (R - tsum s.2.2)) mo s.2.2)
def payN (R : Nat) (s : ST) : Nat := min s.1.2 (min s.1.1 (R - tsum s.2.2))
def pay (R mo : Nat) (s : ST) : ST := ((s.1.1 - payN R s, s.1.2 - payN R s), s.2.1, pt (payN R s) mo s.2.2)
def rea (h : Nat) (s : ST) : ST := ((s.1.1 + h, s.1.2), s.2.1, s.2.2)
def hvs (R mo h : Nat) (s : ST) : ST := if mo % 12 = 9 then pay R mo (rea h s) else rea h s
def prc (E : Nat) (s : ST) : Nat := 1000 * E / (s.1.1 + E)
def buy0 (R : Nat) (ed : Nat → Nat) (s : ST) : Nat := min (ed 1) (min (R - tsum s.2.2) s.1.1)
def buyN (E R : Nat) (ed : Nat → Nat) (co : Nat) (s : ST) : Nat := if prc E s = 0 then buy0 R ed s else min (buy0 R ed s) (co / prc E s)
def selN (ed : Nat → Nat) (s : ST) : Nat := min (ed 3) (tsum s.2.2)
def buyS (n mo : Nat) (s : ST) : ST := ((s.1.1 - n, s.1.2), (s.2.1.1, s.2.1.2.1, s.2.1.2.2.1 + lN n, s.2.1.2.2.2.1, s.2.1.2.2.2.2.1, s.2.1.2.2.2.2.2), pt n mo s.2.2)
def selS (n : Nat) (s : ST) : ST := ((s.1.1 + n, s.1.2), (s.2.1.1, s.2.1.2.1, s.2.1.2.2.1, s.2.1.2.2.2.1 + lN n, s.2.1.2.2.2.2.1, (tk n s.2.2 s.2.1.2.2.2.2.2).2), (tk n s.2.2 s.2.1.2.2.2.2.2).1)
def trd (E R : Nat) (ed : Nat → Nat) (mo co : Nat) (s : ST) : Nat × ST :=
  if prc E s ≤ ed 0 then (co - buyN E R ed co s * prc E s, buyS (buyN E R ed co s) mo s)
  else if ed 2 ≤ prc E s then (co + selN ed s * prc E s, selS (selN ed s) s)
  else (co, s)
def eat (E : Nat) (s : ST) : ST := ((s.1.1 - min E s.1.1, s.1.2), (s.2.1.1 + lN (E - min E s.1.1), s.2.1.2), s.2.2)
def spo (mo a p : Nat) (s : ST) : ST := (s.1, (s.2.1.1, s.2.1.2.1 + lN (sp mo a p s.2.2 s.2.1.2.2.2.2.2 0).2.2, s.2.1.2.2.1, s.2.1.2.2.2.1, s.2.1.2.2.2.2.1, (sp mo a p s.2.2 s.2.1.2.2.2.2.2 0).2.1), (sp mo a p s.2.2 s.2.1.2.2.2.2.2 0).1)
def trnN (o : Nat) (s : ST) : Nat := min ((tsum s.2.2 + o - 1) / o) s.1.1
def trn (o mo : Nat) (s : ST) : ST := (s.1, (s.2.1.1, s.2.1.2.1, s.2.1.2.2.1, s.2.1.2.2.2.1, s.2.1.2.2.2.2.1, (tk (trnN o s) s.2.2 s.2.1.2.2.2.2.2).2), pt (trnN o s) mo (tk (trnN o s) s.2.2 s.2.1.2.2.2.2.2).1)
theorem leastN {a b : Nat} (ha : a < 2 ^ 63) (hb : b < 2 ^ 63) : (if lN a < lN b then lN a else lN b) = lN (min a b) := by
  by_cases h : a < b
  · rw [if_pos ((pk_lLT ha hb).mpr h), Nat.min_eq_left (by omega)]
  · rw [if_neg (fun z => h ((pk_lLT ha hb).mp z)), Nat.min_eq_right (by omega)]
theorem spl_le {p t : Nat} (h : p ≤ 100) : spl p t ≤ t := by
  have h1 : t * p ≤ t * 100 := Nat.mul_le_mul_left t h
  unfold spl
  omega
/-- sums and lengths behind each change -/
theorem tk_sum : ∀ (L : List Lt) (n : Nat) (f : Int64), tsum (tk n L f).1 = tsum L - n
  | [], n, f => by simp [tk, tsum]
  | l :: r, n, f => by
    rw [tk]
    by_cases h : n = 0
    · rw [if_pos h, h]; simp
    · rw [if_neg h]
      by_cases h2 : n < l.2.2.1
      · rw [if_pos h2]; simp only [tsum]; omega
      · rw [if_neg h2, tk_sum r]; simp only [tsum]; omega
theorem tk_len : ∀ (L : List Lt) (n : Nat) (f : Int64), (tk n L f).1.length ≤ L.length
  | [], n, f => by simp [tk]
  | l :: r, n, f => by
    rw [tk]
    by_cases h : n = 0
    · rw [if_pos h]; exact Nat.le_refl _
    · rw [if_neg h]
      by_cases h2 : n < l.2.2.1
      · rw [if_pos h2]; simp
      · rw [if_neg h2]; have := tk_len r (n - l.2.2.1) (f + (l.2.1 - nI l.2.2.1).toInt64); simp only [List.length_cons]; omega
theorem tk_mo {P : Nat → Prop} : ∀ (L : List Lt) (n : Nat) (f : Int64), (∀ l ∈ L, P l.1) → ∀ l ∈ (tk n L f).1, P l.1
  | [], n, f, h => by simp [tk]
  | l :: r, n, f, h => by
    rw [tk]
    by_cases h1 : n = 0
    · rw [if_pos h1]; exact h
    · rw [if_neg h1]
      by_cases h2 : n < l.2.2.1
      · rw [if_pos h2]
        intro q hq
        rcases List.mem_cons.mp hq with rfl | hq
        · exact h l List.mem_cons_self
        · exact h q (List.mem_cons_of_mem _ hq)
      · rw [if_neg h2]; exact tk_mo r _ _ (fun q hq => h q (List.mem_cons_of_mem _ hq))
theorem pt_sum (n mo : Nat) (L : List Lt) : tsum (pt n mo L) = tsum L + n := by
  by_cases h : n = 0
  · subst h; rw [pt_0]; omega
  · cases hl : L[L.length - 1]? with
    | none =>
      have : L = [] := by
        cases L with
        | nil => rfl
        | cons a b => simp at hl
      subst this
      rw [pt_nil h, tsum_app]; simp [tsum]
    | some l =>
      by_cases hc : l.1 ≠ mo ∧ L.length < 40
      · rw [pt_new h hl hc.1 hc.2, tsum_app]; simp [tsum]
      · rw [pt_mod h hl (by by_cases q : l.1 = mo; exact Or.inl q; exact Or.inr (by omega)), tsum_app]
        have e : L = L.dropLast ++ [l] := by
          have hne : L ≠ [] := by intro z; subst z; simp at hl
          have h3 := List.dropLast_concat_getLast hne
          have h4 : L.getLast hne = l := by
            rw [List.getLast_eq_getElem]
            exact (List.getElem?_eq_some_iff.mp hl).2
          rw [h4] at h3
          exact h3.symm
        have e2 : tsum L = tsum L.dropLast + l.2.2.1 := by
          conv => lhs; rw [e]
          rw [tsum_app]; simp [tsum]
        rw [e2]; simp [tsum]; omega
theorem pt_len (n mo : Nat) (L : List Lt) (hL : L.length ≤ 40) : (pt n mo L).length ≤ 40 := by
  by_cases h : n = 0
  · subst h; rw [pt_0]; exact hL
  · cases hl : L[L.length - 1]? with
    | none =>
      have : L = [] := by
        cases L with
        | nil => rfl
        | cons a b => simp at hl
      subst this
      rw [pt_nil h]; simp
    | some l =>
      have hp := lt_get hl
      by_cases hc : l.1 ≠ mo ∧ L.length < 40
      · rw [pt_new h hl hc.1 hc.2]; simp; omega
      · rw [pt_mod h hl (by by_cases q : l.1 = mo; exact Or.inl q; exact Or.inr (by omega))]; simp; omega
theorem pt_mo {P : Nat → Prop} (n mo : Nat) (L : List Lt) (hm : P mo) (h : ∀ l ∈ L, P l.1) : ∀ l ∈ pt n mo L, P l.1 := by
  by_cases hn : n = 0
  · subst hn; rw [pt_0]; exact h
  · cases hl : L[L.length - 1]? with
    | none =>
      have : L = [] := by
        cases L with
        | nil => rfl
        | cons a b => simp at hl
      subst this
      rw [pt_nil hn]; intro l hl2; simp at hl2; subst hl2; exact hm
    | some l =>
      by_cases hc : l.1 ≠ mo ∧ L.length < 40
      · rw [pt_new hn hl hc.1 hc.2]; intro q hq
        rcases List.mem_append.mp hq with hq | hq
        · exact h q hq
        · simp at hq; subst hq; exact hm
      · rw [pt_mod hn hl (by by_cases q : l.1 = mo; exact Or.inl q; exact Or.inr (by omega))]; intro q hq
        rcases List.mem_append.mp hq with hq | hq
        · exact h q (List.dropLast_subset L hq)
        · simp at hq; subst hq; exact h l (List.mem_of_getElem? hl)
theorem sp_all {P : Nat → Prop} (now a p : Nat) (hp : p ≤ 100) : ∀ (L : List Lt) (f : Int64) (s : Nat), (∀ l ∈ L, P l.1) → tsum (sp now a p L f s).1 ≤ tsum L ∧ (sp now a p L f s).1.length ≤ L.length ∧ ∀ l ∈ (sp now a p L f s).1, P l.1
  | [], f, s, h => by simp [sp, tsum]
  | l :: r, f, s, h => by
    have hr : ∀ q ∈ r, P q.1 := fun q hq => h q (List.mem_cons_of_mem _ hq)
    have hl := h l List.mem_cons_self
    have hs := spl_le (t := l.2.2.1) hp
    rw [sp]
    by_cases h1 : now < l.1 + a
    · rw [if_pos h1]
      obtain ⟨i1, i2, i3⟩ := sp_all now a p hp r f s hr
      refine ⟨by simp only [tsum]; omega, by simp only [List.length_cons]; omega, fun q hq => ?_⟩
      rcases List.mem_cons.mp hq with rfl | hq
      · exact hl
      · exact i3 q hq
    · rw [if_neg h1]
      by_cases h2 : l.2.2.1 - spl p l.2.2.1 = 0
      · rw [if_pos h2]
        obtain ⟨i1, i2, i3⟩ := sp_all now a p hp r (f + (l.2.1 - nI (spl p l.2.2.1)).toInt64) (s + spl p l.2.2.1) hr
        exact ⟨by simp only [tsum]; omega, by simp only [List.length_cons]; omega, i3⟩
      · rw [if_neg h2]
        obtain ⟨i1, i2, i3⟩ := sp_all now a p hp r f (s + spl p l.2.2.1) hr
        refine ⟨by simp only [tsum]; omega, by simp only [List.length_cons]; omega, fun q hq => ?_⟩
        rcases List.mem_cons.mp hq with rfl | hq
        · exact hl
        · exact i3 q hq
end
section
def slotR (I : Nat → Nat → Int32) (J : Nat → Nat → Int64) (x : Nat) (s : ST) : Prop := J 21 x = lN s.1.1 ∧ J 26 x = lN s.1.2 ∧ J 24 x = s.2.1.1 ∧ J 25 x = s.2.1.2.1 ∧ J 27 x = s.2.1.2.2.1 ∧ J 28 x = s.2.1.2.2.2.1 ∧ J 29 x = s.2.1.2.2.2.2.1 ∧ J 23 x = s.2.1.2.2.2.2.2 ∧ rowR I x s.2.2
def okS (R : Nat) (s : ST) : Prop := okL s.2.2 ∧ tsum s.2.2 ≤ R ∧ s.1.1 < 2 ^ 50 ∧ s.1.2 < 2 ^ 50
/-- the places of longs of the STORE x -/
def pX (x k j : Nat) : Prop := 21 ≤ k ∧ k ≤ 29 ∧ j = x
theorem slotR_fr {P P' : Nat → Nat → Prop} {I I' : Nat → Nat → Int32} {J J' : Nat → Nat → Int64} {x : Nat} {s : ST} (h : fr P I I') (h' : fr P' J J') (e : slotR I J x s) (hl : s.2.2.length ≤ 40) (n0 : ¬ P 22 x) (n : ∀ k j, 30 ≤ k → k ≤ 33 → 40 * x ≤ j → j < 40 * x + 40 → ¬ P k j) (n' : ∀ k, 21 ≤ k → k ≤ 29 → ¬ P' k x) : slotR I' J' x s := by
  obtain ⟨a, b, c, d, f, g, i, j, r⟩ := e
  exact ⟨(h' 21 x (n' 21 (by omega) (by omega))).trans a, (h' 26 x (n' 26 (by omega) (by omega))).trans b, (h' 24 x (n' 24 (by omega) (by omega))).trans c, (h' 25 x (n' 25 (by omega) (by omega))).trans d, (h' 27 x (n' 27 (by omega) (by omega))).trans f, (h' 28 x (n' 28 (by omega) (by omega))).trans g, (h' 29 x (n' 29 (by omega) (by omega))).trans i, (h' 23 x (n' 23 (by omega) (by omega))).trans j, rowR_fr h r n0 (fun k j h1 h2 h3 h4 => n k j h1 h2 h3 (by omega))⟩
theorem nI_ne_m1 {h : Nat} (hh : h < 2 ^ 31) : ¬ nI h = -1 := fun z => by
  have := congrArg Int32.toInt z
  rw [nI_toInt hh] at this
  have h2 : (-1 : Int32).toInt = -1 := by decide
  rw [h2] at this
  omega
theorem rea_0 (s : ST) : rea 0 s = s := rfl
theorem prc_le (e : Nat) (s : ST) : prc e s ≤ 1000 := by
  unfold prc
  refine Nat.div_le_of_le_mul ?_
  rw [Nat.mul_comm 1000 e]
  exact Nat.mul_le_mul_right 1000 (Nat.le_add_left e s.1.1)
theorem buy_cost (e r : Nat) (ed : Nat → Nat) (co : Nat) (s : ST) : buyN e r ed co s * prc e s ≤ co := by
  unfold buyN
  by_cases h : prc e s = 0
  · rw [h]; simp
  · rw [if_neg h]
    exact Nat.le_trans (Nat.mul_le_mul_right _ (Nat.min_le_right _ _)) (Nat.div_mul_le_self _ _)
theorem buy_le (e r : Nat) (ed : Nat → Nat) (co : Nat) (s : ST) : buyN e r ed co s ≤ s.1.1 ∧ buyN e r ed co s ≤ r - tsum s.2.2 ∧ buyN e r ed co s ≤ ed 1 := by
  unfold buyN buy0
  by_cases h : prc e s = 0
  · rw [if_pos h]; omega
  · rw [if_neg h]; omega
section MROWS2
variable {G : GG} {X : CX} {my : MethodName} {cc : ByteArray} {mL : Nat} {mr : Option FieldType} {R : Room} {A : Nat → Prop} {Q : State → Prop} {kc kn : Nat} {lv : List (Nat × Value)} {pc : Nat} {rest : List Value} {o : Nat} {ad : Nat → Nat} {sc : Int32 × Int32 × Int32} {I : Nat → Nat → Int32} {J : Nat → Nat → Int64}
theorem Mle {ke : Nat} (hke : ke = 2 ∨ ke = 3) {i : Int32} (j : Nat) (hi : i = nI j) (hj : j < 8) (hdg : decode cc pc = .ok (.iaload, 1)) (kk : V G X my cc mL mr R A Q kc kn (mw G o ad sc I J) lv (pc + 1) (.int (I ke j) :: rest)) : V G X my cc mL mr R A Q kc kn (mw G o ad sc I J) lv pc (.int i :: .ref (ad ke) :: rest) := by
  rcases hke with rfl | rfl
  · exact Ml2 j hi hj hdg kk
  · exact Ml3 j hi hj hdg kk
end MROWS2
/-- one LOT of a row changes -/
theorem rowR_set {I : Nat → Nat → Int32} {x i : Nat} {L : List Lt} {l : Lt} {b : Int32} {t : Nat} (h : rowR I x L) (hl : L[i]? = some l) : rowR (up2 (up2 I 32 (40 * x + i) (nI t)) 31 (40 * x + i) b) x (L.set i (l.1, b, t, l.2.2.2)) := by
  refine ⟨by rw [List.length_set]; exact h.1, fun k l' hk => ?_⟩
  by_cases q : k = i
  · subst q
    rw [List.getElem?_set_self (lt_get hl)] at hk
    cases hk
    have e := h.2 k l hl
    refine ⟨e.1, up2_s _ _ _ _, ?_, e.2.2.2⟩
    rw [up2_k _ _ (by decide), up2_s]
  · rw [List.getElem?_set_ne (fun z => q z.symm)] at hk
    have e := h.2 k l' hk
    refine ⟨e.1, ?_, ?_, e.2.2.2⟩
    · rw [up2_n _ _ (by omega)]; exact e.2.1
    · rw [up2_n _ _ (by omega), up2_n _ _ (by omega)]; exact e.2.2.1
theorem set_fr {I : Nat → Nat → Int32} {x i t : Nat} {b : Int32} (hi : i < 40) : fr (pS x) I (up2 (up2 I 32 (40 * x + i) (nI t)) 31 (40 * x + i) b) := (fr.up (Or.inr ⟨by omega, by omega, by omega, by omega⟩)).tr (fr.up (Or.inr ⟨by omega, by omega, by omega, by omega⟩))
theorem set_mid {D r : List Lt} {l l' : Lt} : (D ++ l :: r).set D.length l' = D ++ l' :: r := by simp
theorem mid_at {D r : List Lt} {l : Lt} : (D ++ l :: r)[D.length]? = some l := by simp
theorem erase_mid {D r : List Lt} {l : Lt} : (D ++ l :: r).eraseIdx D.length = D ++ r := by
  rw [List.eraseIdx_append_of_length_le (Nat.le_refl _)]; simp
end
section
set_option maxHeartbeats 4000000 in
set_option maxRecDepth 20000 in
theorem c_X8_harvests (l : Launch) (G : GG) (o : Nat) (ad : Nat → Nat) (sc : Int32 × Int32 × Int32) (I : Nat → Nat → Int32) (J : Nat → Nat → Int64) (g t r mo h : Nat) (s : ST) (hg : g < 2) (ht : t < 8) (hs : slotR I J (8 * g + t) s) (ok : okS r s) (hr : I 8 t = nI r) (hr2 : r ≤ 50000) (hmo : I 15 g = nI mo) (hmo2 : mo ≤ 4000) (hh : (g = 0 ∧ (I 9 t = nI h ∨ (h = 0 ∧ I 9 t = -1))) ∨ (g = 1 ∧ h = 0)) (hh2 : h ≤ 100000) : Ct l G yX8_harvests cX8_harvests 6 none rm_X8_harvests [.ref (o), .int (nI (g)), .int (nI (t))] (mw G o ad sc I J) (fun u : (Nat → Nat → Int32) × (Nat → Nat → Int64) => mw G o ad sc u.1 u.2) (fun u : (Nat → Nat → Int32) × (Nat → Nat → Int64) => none) (fun u : (Nat → Nat → Int32) × (Nat → Nat → Int64) => slotR u.1 u.2 (8 * g + t) (hvs r mo h s) ∧ fr (fun k j => pS (8 * g + t) k j ∨ (g = 0 ∧ k = 9 ∧ j = t)) I u.1 ∧ fr (pX (8 * g + t)) J u.2 ∧ (g = 0 → u.1 9 t = -1)) := by
  refine Ct.of (by decide) (Nat.le_of_ble_eq_true rfl) (fun X A hX => ?_)
  subst hX
  refine V.to (lv' := [(0, .ref (o)), (1, .int (nI (g))), (2, .int (nI (t)))]) (st := []) (pc' := 0) rfl rfl rfl ?_
  have ho1 := ok.2.1
  have ho2 := ok.2.2.1
  have ho3 := ok.2.2.2
  have tail : ∀ (I1 : Nat → Nat → Int32) (J1 : Nat → Nat → Int64), slotR I1 J1 (8 * g + t) (rea h s) → I1 15 g = nI mo → I1 8 t = nI r → fr (fun k j => pS (8 * g + t) k j ∨ (g = 0 ∧ k = 9 ∧ j = t)) I I1 → fr (pX (8 * g + t)) J J1 → (g = 0 → I1 9 t = -1) → V G X yX8_harvests cX8_harvests 6 none rm_X8_harvests A (MZ G X rm_X8_harvests A (fun u : (Nat → Nat → Int32) × (Nat → Nat → Int64) => mw G o ad sc u.1 u.2) (fun u : (Nat → Nat → Int32) × (Nat → Nat → Int64) => none) (fun u : (Nat → Nat → Int32) × (Nat → Nat → Int64) => slotR u.1 u.2 (8 * g + t) (hvs r mo h s) ∧ fr (fun k j => pS (8 * g + t) k j ∨ (g = 0 ∧ k = 9 ∧ j = t)) I u.1 ∧ fr (pX (8 * g + t)) J u.2 ∧ (g = 0 → u.1 9 t = -1))) 0 0 (mw G o ad sc I1 J1) [(3, .int (nI (8 * g + t))), (0, .ref (o)), (1, .int (nI (g))), (2, .int (nI (t)))] 44 [] := by
    intro I1 J1 h1 h15 h8 hf hfj h9
    refine V.aload_n dX8_harvests_44 rfl rfl ?_
    refine Mg15 rfl dX8_harvests_45 ?_
    refine V.iload_n dX8_harvests_48 rfl rfl ?_
    refine Ml15 (g) rfl (by omega) dX8_harvests_49 ?_
    refine V.ei (y := nI (mo)) h15 ?_
    refine V.bipush (v := nI (12)) dX8_harvests_50 rfl ?_
    refine V.irem dX8_harvests_52 (by decide) ?_
    refine V.ei (y := nI (mo % 12)) (pk_rem (by omega) (by omega) (by omega)) ?_
    refine V.bipush (v := nI (9)) dX8_harvests_53 rfl ?_
    refine V.icmp_eq (tgt := 59) dX8_harvests_55 (by decide) (fun c_1 => ?_) (fun c_1 => ?_)
    · have hm9 : mo % 12 = 9 := (nI_eq (by omega) (by omega)).mp c_1
      refine V.aload_n dX8_harvests_59 rfl rfl ?_
      refine Mg26 rfl dX8_harvests_60 ?_
      refine V.iload_n dX8_harvests_63 rfl rfl ?_
      refine Ml26 (8 * g + t) rfl (by omega) dX8_harvests_64 ?_
      refine V.el (y := lN (s.1.2)) h1.2.1 ?_
      refine V.aload_n dX8_harvests_65 rfl rfl ?_
      refine Mg21 rfl dX8_harvests_66 ?_
      refine V.iload_n dX8_harvests_69 rfl rfl ?_
      refine Ml21 (8 * g + t) rfl (by omega) dX8_harvests_70 ?_
      refine V.el (y := lN (s.1.1 + h)) h1.1 ?_
      refine V.aload_n dX8_harvests_71 rfl rfl ?_
      refine V.iload_n dX8_harvests_72 rfl rfl ?_
      refine V.iload_n dX8_harvests_73 rfl rfl ?_
      refine V.callV0 (c_X8_space _ G o ad sc I1 J1 g t r s.2.2 ht (by omega) h8 hr2 h1.2.2.2.2.2.2.2.2 ok.1) [.long (lN (s.1.1 + h)), .long (lN (s.1.2))] 0 9 rfl rfl rfl rfl (goodV kM_X8_173 kI_X8_space kV_X8_space kN_X8 kC_X8_space) ds_X8_space (by decide) (Nat.le_of_ble_eq_true rfl) dX8_harvests_74 (by decide) (fun u hu => ?_)
      refine V.to (lv' := [(3, .int (nI (8 * g + t))), (0, .ref (o)), (1, .int (nI (g))), (2, .int (nI (t)))]) (st := [.long (lN (r - tsum s.2.2)), .long (lN (s.1.1 + h)), .long (lN (s.1.2))]) (pc' := 77) rfl rfl rfl ?_
      refine V.callSE (c_X8_least _ G (lN (s.1.1 + h)) (lN (r - tsum s.2.2))) [.long (lN (s.1.2))] rfl (goodS kM_X8_177 kS_X8_least kN_X8 kC_X8_least) ds_X8_least (by decide) (Nat.le_of_ble_eq_true rfl) dX8_harvests_77 (by decide) (fun u hu => ?_)
      refine V.to (lv' := [(3, .int (nI (8 * g + t))), (0, .ref (o)), (1, .int (nI (g))), (2, .int (nI (t)))]) (st := [.long (if lN (s.1.1 + h) < lN (r - tsum s.2.2) then lN (s.1.1 + h) else lN (r - tsum s.2.2)), .long (lN (s.1.2))]) (pc' := 80) rfl rfl rfl ?_
      refine V.el (leastN (by omega) (by omega)) ?_
      refine V.callSE (c_X8_least _ G (lN (s.1.2)) (lN (min (s.1.1 + h) (r - tsum s.2.2)))) [] rfl (goodS kM_X8_177 kS_X8_least kN_X8 kC_X8_least) ds_X8_least (by decide) (Nat.le_of_ble_eq_true rfl) dX8_harvests_80 (by decide) (fun u hu => ?_)
      refine V.to (lv' := [(3, .int (nI (8 * g + t))), (0, .ref (o)), (1, .int (nI (g))), (2, .int (nI (t)))]) (st := [.long (if lN (s.1.2) < lN (min (s.1.1 + h) (r - tsum s.2.2)) then lN (s.1.2) else lN (min (s.1.1 + h) (r - tsum s.2.2)))]) (pc' := 83) rfl rfl rfl ?_
      refine V.el (leastN (by omega) (by omega)) ?_
      have hp : payN r (rea h s) ≤ s.1.2 ∧ payN r (rea h s) ≤ s.1.1 + h ∧ payN r (rea h s) ≤ r - tsum s.2.2 := by simp only [payN, rea]; omega
      obtain ⟨n, hn⟩ : ∃ n, payN r (rea h s) = n := ⟨_, rfl⟩
      rw [hn] at hp
      refine V.el (y := lN (n)) (by rw [← hn]; rfl) ?_
      refine V.lstore (lv' := [(4, .long (lN (n))), (3, .int (nI (8 * g + t))), (0, .ref (o)), (1, .int (nI (g))), (2, .int (nI (t)))]) dX8_harvests_83 (by decide) rfl ?_
      refine V.aload_n dX8_harvests_85 rfl rfl ?_
      refine Mg21 rfl dX8_harvests_86 ?_
      refine V.iload_n dX8_harvests_89 rfl rfl ?_
      refine V.dup2_11 dX8_harvests_90 rfl rfl ?_
      refine Ml21 (8 * g + t) rfl (by omega) dX8_harvests_91 ?_
      refine V.el (y := lN (s.1.1 + h)) h1.1 ?_
      refine V.lload dX8_harvests_92 rfl ?_
      refine V.lsub dX8_harvests_94 ?_
      refine V.el (y := lN (s.1.1 + h - n)) (lN_sub (by omega)) ?_
      refine Ms21 (8 * g + t) rfl (by omega) dX8_harvests_95 ?_
      refine V.aload_n dX8_harvests_96 rfl rfl ?_
      refine Mg26 rfl dX8_harvests_97 ?_
      refine V.iload_n dX8_harvests_100 rfl rfl ?_
      refine V.dup2_11 dX8_harvests_101 rfl rfl ?_
      refine Ml26 (8 * g + t) rfl (by omega) dX8_harvests_102 ?_
      refine V.el (y := lN (s.1.2)) h1.2.1 ?_
      refine V.lload dX8_harvests_103 rfl ?_
      refine V.lsub dX8_harvests_105 ?_
      refine V.el (y := lN (s.1.2 - n)) (lN_sub (by omega)) ?_
      refine Ms26 (8 * g + t) rfl (by omega) dX8_harvests_106 ?_
      refine V.aload_n dX8_harvests_107 rfl rfl ?_
      refine V.iload_n dX8_harvests_108 rfl rfl ?_
      refine V.lload dX8_harvests_109 rfl ?_
      refine V.aload_n dX8_harvests_111 rfl rfl ?_
      refine Mg15 rfl dX8_harvests_112 ?_
      refine V.iload_n dX8_harvests_115 rfl rfl ?_
      refine Ml15 (g) rfl (by omega) dX8_harvests_116 ?_
      refine V.ei (y := nI (mo)) h15 ?_
      refine V.callV0 (c_X8_comes _ G o ad sc I1 (up2 (up2 J1 21 (8 * g + t) (lN (s.1.1 + h - n))) 26 (8 * g + t) (lN (s.1.2 - n))) (8 * g + t) n mo s.2.2 (by omega) h1.2.2.2.2.2.2.2.2 ok.1.1 (by omega) ok.1.2.2 hmo2) [] 0 9 rfl rfl rfl rfl (goodV kM_X8_181 kI_X8_comes kV_X8_comes kN_X8 kC_X8_comes) ds_X8_comes (by decide) (Nat.le_of_ble_eq_true rfl) dX8_harvests_117 (by decide) (fun u hu => ?_)
      refine V.to (lv' := [(4, .long (lN (n))), (3, .int (nI (8 * g + t))), (0, .ref (o)), (1, .int (nI (g))), (2, .int (nI (t)))]) (st := []) (pc' := 120) rfl rfl rfl ?_
      exact V.vret (u, (up2 (up2 J1 21 (8 * g + t) (lN (s.1.1 + h - n))) 26 (8 * g + t) (lN (s.1.2 - n)))) rfl rfl ⟨by rw [show hvs r mo h s = ((s.1.1 + h - n, s.1.2 - n), s.2.1, pt n mo s.2.2) by rw [hvs, if_pos hm9, pay, hn]; rfl]; exact ⟨(by simp [up2]), (by simp [up2]), h1.2.2.1, h1.2.2.2.1, h1.2.2.2.2.1, h1.2.2.2.2.2.1, h1.2.2.2.2.2.2.1, h1.2.2.2.2.2.2.2.1, hu.1⟩, hf.tr (hu.2.mono (fun _ _ z => Or.inl z)), hfj.tr ((fr.up ⟨by omega, by omega, rfl⟩).tr (fr.up ⟨by omega, by omega, rfl⟩)), fun z => (hu.2 9 t (by simp [pS])).trans (h9 z)⟩ rfl (by decide) (by decide) dX8_harvests_120
    · have hm9 : ¬ mo % 12 = 9 := fun q => c_1 (by rw [q])
      exact V.vret (I1, J1) rfl rfl ⟨by rw [hvs, if_neg hm9]; exact h1, hf, hfj, h9⟩ rfl (by decide) (by decide) dX8_harvests_58
  refine V.bipush (v := nI (8)) dX8_harvests_0 rfl ?_
  refine V.iload_n dX8_harvests_2 rfl rfl ?_
  refine V.imul dX8_harvests_3 ?_
  refine V.ei (pk_mul _ _) ?_
  refine V.iload_n dX8_harvests_4 rfl rfl ?_
  refine V.iadd dX8_harvests_5 ?_
  refine V.ei (nI_add _ _) ?_
  refine V.istore_n (lv' := [(3, .int (nI (((8) * (g)) + (t)))), (0, .ref (o)), (1, .int (nI (g))), (2, .int (nI (t)))]) dX8_harvests_6 rfl (by decide) rfl ?_
  refine V.iload_n dX8_harvests_7 rfl rfl ?_
  refine V.if_ne (tgt := 44) dX8_harvests_8 (by decide) (fun c_1 => ?_) (fun c_1 => ?_)
  · have hg0 : g ≠ 0 := fun q => c_1 (by rw [q]; rfl)
    have hh0 : h = 0 := by rcases hh with q | q; exact absurd q.1 hg0; exact q.2
    have h9m : g = 0 → I 9 t = -1 := fun q => absurd q hg0
    refine V.pick [0, 1, 2, 3] (lv' := [(3, .int (nI (((8) * (g)) + (t)))), (0, .ref (o)), (1, .int (nI (g))), (2, .int (nI (t)))]) rfl ?_; exact tail I J (by rw [hh0, rea_0]; exact hs) hmo hr fr.rf fr.rf h9m
  · have hg0 : g = 0 := (nI_eq (b := 0) (by omega) (by omega)).mp c_1
    have hh1 : I 9 t = nI h ∨ (h = 0 ∧ I 9 t = -1) := by rcases hh with q | q; exact q.2; omega
    refine V.aload_n dX8_harvests_11 rfl rfl ?_
    refine Mg9 rfl dX8_harvests_12 ?_
    refine V.iload_n dX8_harvests_15 rfl rfl ?_
    refine Ml9 (t) rfl (by omega) dX8_harvests_16 ?_
    refine V.iconst (v := -1) dX8_harvests_17 (by decide) ?_
    refine V.icmp_eq (tgt := 44) dX8_harvests_18 (by decide) (fun c_2 => ?_) (fun c_2 => ?_)
    · have hh0 : h = 0 := by rcases hh1 with q | q; exact absurd (q.symm.trans c_2) (nI_ne_m1 (by omega)); exact q.1
      have h9m : g = 0 → I 9 t = -1 := fun _ => c_2
      refine V.pick [0, 1, 2, 3] (lv' := [(3, .int (nI (((8) * (g)) + (t)))), (0, .ref (o)), (1, .int (nI (g))), (2, .int (nI (t)))]) rfl ?_; exact tail I J (by rw [hh0, rea_0]; exact hs) hmo hr fr.rf fr.rf h9m
    · have h9h : I 9 t = nI h := by rcases hh1 with q | q; exact q; exact absurd q.2 c_2
      refine V.aload_n dX8_harvests_21 rfl rfl ?_
      refine Mg21 rfl dX8_harvests_22 ?_
      refine V.iload_n dX8_harvests_25 rfl rfl ?_
      refine V.dup2_11 dX8_harvests_26 rfl rfl ?_
      refine Ml21 (((8) * (g)) + (t)) rfl (by omega) dX8_harvests_27 ?_
      refine V.el (y := lN (s.1.1)) hs.1 ?_
      refine V.aload_n dX8_harvests_28 rfl rfl ?_
      refine Mg9 rfl dX8_harvests_29 ?_
      refine V.iload_n dX8_harvests_32 rfl rfl ?_
      refine Ml9 (t) rfl (by omega) dX8_harvests_33 ?_
      refine V.ei (y := nI (h)) h9h ?_
      refine V.i2l (v := lN (h)) dX8_harvests_34 (nI_l (by omega)) ?_
      refine V.ladd dX8_harvests_35 ?_
      refine V.el (lN_add _ _) ?_
      refine Ms21 (((8) * (g)) + (t)) rfl (by omega) dX8_harvests_36 ?_
      refine V.aload_n dX8_harvests_37 rfl rfl ?_
      refine Mg9 rfl dX8_harvests_38 ?_
      refine V.iload_n dX8_harvests_41 rfl rfl ?_
      refine V.iconst (v := -1) dX8_harvests_42 (by decide) ?_
      refine Ms9 (t) rfl (by omega) dX8_harvests_43 ?_
      refine V.pick [0, 1, 2, 3] (lv' := [(3, .int (nI (((8) * (g)) + (t)))), (0, .ref (o)), (1, .int (nI (g))), (2, .int (nI (t)))]) rfl ?_; exact tail _ _ ⟨up2_s _ _ _ _, hs.2.1, hs.2.2.1, hs.2.2.2.1, hs.2.2.2.2.1, hs.2.2.2.2.2.1, hs.2.2.2.2.2.2.1, hs.2.2.2.2.2.2.2.1, rowR_fr (fr.up (P := fun k j => k = 9 ∧ j = t) ⟨rfl, rfl⟩) hs.2.2.2.2.2.2.2.2 (by omega) (by intros; omega)⟩ hmo hr (fr.up (Or.inr ⟨hg0, rfl, rfl⟩)) (fr.up ⟨by omega, by omega, rfl⟩) (fun _ => up2_s _ _ _ _)
set_option maxHeartbeats 4000000 in
set_option maxRecDepth 20000 in
theorem c_X8_trades (l : Launch) (G : GG) (o : Nat) (ad : Nat → Nat) (sc : Int32 × Int32 × Int32) (I : Nat → Nat → Int32) (J : Nat → Nat → Int64) (g t r e mo co ke : Nat) (ed : Nat → Nat) (s : ST) (hg : g < 2) (ht : t < 8) (hke : ke = 2 ∨ ke = 3) (hs : slotR I J (8 * g + t) s) (ok : okS r s) (hr : I 8 t = nI r) (hr2 : r ≤ 50000) (he : I 7 t = nI e) (he1 : 1 ≤ e) (he2 : e ≤ 1000) (hmo : I 15 g = nI mo) (hmo2 : mo ≤ 4000) (hco : J 16 g = lN co) (hco2 : co < 2 ^ 60) (hed : ∀ j, j < 8 → I ke j = nI (ed j)) (hed2 : ∀ j, j < 8 → ed j ≤ 9999) : Ct l G yX8_trades cX8_trades 9 none rm_X8_trades [.ref (o), .int (nI (g)), .int (nI (t)), .ref (ad ke)] (mw G o ad sc I J) (fun u : (Nat → Nat → Int32) × (Nat → Nat → Int64) => mw G o ad sc u.1 u.2) (fun u : (Nat → Nat → Int32) × (Nat → Nat → Int64) => none) (fun u : (Nat → Nat → Int32) × (Nat → Nat → Int64) => slotR u.1 u.2 (8 * g + t) (trd e r ed mo co s).2 ∧ u.2 16 g = lN (trd e r ed mo co s).1 ∧ fr (pS (8 * g + t)) I u.1 ∧ fr (fun k j => pX (8 * g + t) k j ∨ (k = 16 ∧ j = g)) J u.2) := by
  refine Ct.of (by decide) (Nat.le_of_ble_eq_true rfl) (fun X A hX => ?_)
  subst hX
  refine V.to (lv' := [(0, .ref (o)), (1, .int (nI (g))), (2, .int (nI (t))), (3, .ref (ad ke))]) (st := []) (pc' := 0) rfl rfl rfl ?_
  have ho1 := ok.2.1
  have ho2 := ok.2.2.1
  have ho3 := ok.2.2.2
  have hp1 := prc_le e s
  have hq0 := hed2 0 (by omega)
  have hq1 := hed2 1 (by omega)
  have hq2 := hed2 2 (by omega)
  have hq3 := hed2 3 (by omega)
  refine V.bipush (v := nI (8)) dX8_trades_0 rfl ?_
  refine V.iload_n dX8_trades_2 rfl rfl ?_
  refine V.imul dX8_trades_3 ?_
  refine V.ei (pk_mul _ _) ?_
  refine V.iload_n dX8_trades_4 rfl rfl ?_
  refine V.iadd dX8_trades_5 ?_
  refine V.ei (nI_add _ _) ?_
  refine V.istore (lv' := [(4, .int (nI (((8) * (g)) + (t)))), (0, .ref (o)), (1, .int (nI (g))), (2, .int (nI (t))), (3, .ref (ad ke))]) dX8_trades_6 (by decide) rfl ?_
  refine V.aload_n dX8_trades_8 rfl rfl ?_
  refine V.iload dX8_trades_9 rfl ?_
  refine V.iload_n dX8_trades_11 rfl rfl ?_
  refine V.callV0 (c_X8_price _ G o ad sc I J (8 * g + t) t e s.1.1 ht (by omega) he he1 he2 hs.1 (by omega)) [] 0 9 rfl rfl rfl rfl (goodV kM_X8_185 kI_X8_price kV_X8_price kN_X8 kC_X8_price) ds_X8_price (by decide) (Nat.le_of_ble_eq_true rfl) dX8_trades_12 (by decide) (fun u hu => ?_)
  refine V.to (lv' := [(4, .int (nI (((8) * (g)) + (t)))), (0, .ref (o)), (1, .int (nI (g))), (2, .int (nI (t))), (3, .ref (ad ke))]) (st := [.long (lN (1000 * e / (s.1.1 + e)))]) (pc' := 15) rfl rfl rfl ?_
  refine V.el (y := lN (prc e s)) rfl ?_
  refine V.lstore (lv' := [(5, .long (lN (prc e s))), (4, .int (nI (((8) * (g)) + (t)))), (0, .ref (o)), (1, .int (nI (g))), (2, .int (nI (t))), (3, .ref (ad ke))]) dX8_trades_15 (by decide) rfl ?_
  refine V.lload dX8_trades_17 rfl ?_
  refine V.aload_n dX8_trades_19 rfl rfl ?_
  refine V.iconst (v := nI (0)) dX8_trades_20 rfl ?_
  refine Mle hke (0) rfl (by omega) dX8_trades_21 ?_
  refine V.ei (y := nI (ed 0)) (hed 0 (by omega)) ?_
  refine V.i2l (v := lN (ed 0)) dX8_trades_22 (nI_l (by omega)) ?_
  refine V.lc_gt (tgt := 135) dX8_trades_23 dX8_trades_24 (by decide) (fun c_1 => ?_) (fun c_1 => ?_)
  · have hbuy : ¬ prc e s ≤ ed 0 := by have := (pk_lLT (by omega) (by omega)).mp c_1; omega
    refine V.lload dX8_trades_135 rfl ?_
    refine V.aload_n dX8_trades_137 rfl rfl ?_
    refine V.iconst (v := nI (2)) dX8_trades_138 rfl ?_
    refine Mle hke (2) rfl (by omega) dX8_trades_139 ?_
    refine V.ei (y := nI (ed 2)) (hed 2 (by omega)) ?_
    refine V.i2l (v := lN (ed 2)) dX8_trades_140 (nI_l (by omega)) ?_
    refine V.lc_lt (tgt := 206) dX8_trades_141 dX8_trades_142 (by decide) (fun c_2 => ?_) (fun c_2 => ?_)
    · have hsel : ¬ ed 2 ≤ prc e s := by have := (pk_lLT (by omega) (by omega)).mp c_2; omega
      exact V.vret (I, J) rfl rfl (by rw [trd, if_neg hbuy, if_neg hsel]; exact ⟨hs, hco, fr.rf, fr.rf⟩) rfl (by decide) (by decide) dX8_trades_206
    · have hsel : ed 2 ≤ prc e s := by
        rcases Nat.lt_or_ge (prc e s) (ed 2) with q | q
        · exact absurd ((pk_lLT (by omega) (by omega)).mpr q) c_2
        · exact q
      refine V.aload_n dX8_trades_145 rfl rfl ?_
      refine V.iconst (v := nI (3)) dX8_trades_146 rfl ?_
      refine Mle hke (3) rfl (by omega) dX8_trades_147 ?_
      refine V.ei (y := nI (ed 3)) (hed 3 (by omega)) ?_
      refine V.i2l (v := lN (ed 3)) dX8_trades_148 (nI_l (by omega)) ?_
      refine V.aload_n dX8_trades_149 rfl rfl ?_
      refine V.iload dX8_trades_150 rfl ?_
      refine V.callV0 (c_X8_trueIn _ G o ad sc I J (8 * g + t) s.2.2 (by omega) hs.2.2.2.2.2.2.2.2 ok.1) [.long (lN (ed 3))] 0 9 rfl rfl rfl rfl (goodV kM_X8_169 kI_X8_trueIn kV_X8_trueIn kN_X8 kC_X8_trueIn) ds_X8_trueIn (by decide) (Nat.le_of_ble_eq_true rfl) dX8_trades_152 (by decide) (fun u hu => ?_)
      refine V.to (lv' := [(5, .long (lN (prc e s))), (4, .int (nI (((8) * (g)) + (t)))), (0, .ref (o)), (1, .int (nI (g))), (2, .int (nI (t))), (3, .ref (ad ke))]) (st := [.long (lN (tsum s.2.2)), .long (lN (ed 3))]) (pc' := 155) rfl rfl rfl ?_
      refine V.callSE (c_X8_least _ G (lN (ed 3)) (lN (tsum s.2.2))) [] rfl (goodS kM_X8_177 kS_X8_least kN_X8 kC_X8_least) ds_X8_least (by decide) (Nat.le_of_ble_eq_true rfl) dX8_trades_155 (by decide) (fun u hu => ?_)
      refine V.to (lv' := [(5, .long (lN (prc e s))), (4, .int (nI (((8) * (g)) + (t)))), (0, .ref (o)), (1, .int (nI (g))), (2, .int (nI (t))), (3, .ref (ad ke))]) (st := [.long (if lN (ed 3) < lN (tsum s.2.2) then lN (ed 3) else lN (tsum s.2.2))]) (pc' := 158) rfl rfl rfl ?_
      refine V.el (leastN (by omega) (by omega)) ?_
      obtain ⟨n, hn⟩ : ∃ n, selN ed s = n := ⟨_, rfl⟩
      have hsn : n ≤ ed 3 ∧ n ≤ tsum s.2.2 := by rw [← hn]; simp only [selN]; omega
      refine V.el (y := lN (n)) (by rw [← hn]; rfl) ?_
      refine V.lstore (lv' := [(7, .long (lN (n))), (5, .long (lN (prc e s))), (4, .int (nI (((8) * (g)) + (t)))), (0, .ref (o)), (1, .int (nI (g))), (2, .int (nI (t))), (3, .ref (ad ke))]) dX8_trades_158 (by decide) rfl ?_
      refine V.aload_n dX8_trades_160 rfl rfl ?_
      refine V.iload dX8_trades_161 rfl ?_
      refine V.lload dX8_trades_163 rfl ?_
      refine V.callV0 (c_X8_takes _ G o ad sc I J (8 * g + t) n s.2.2 (by omega) hs.2.2.2.2.2.2.2.2 ok.1.1 (fun q hq => Nat.le_trans (tsum_mem hq) ok.1.2.1) (by omega)) [] 0 9 rfl rfl rfl rfl (goodV kM_X8_188 kI_X8_takes kV_X8_takes kN_X8 kC_X8_takes) ds_X8_takes (by decide) (Nat.le_of_ble_eq_true rfl) dX8_trades_165 (by decide) (fun u hu => ?_)
      rw [hs.2.2.2.2.2.2.2.1] at hu
      refine V.wd (ws' := mw G o ad sc u (up2 J 23 (8 * g + t) (tk n s.2.2 s.2.1.2.2.2.2.2).2)) (by rw [hs.2.2.2.2.2.2.2.1]) ?_
      refine V.to (lv' := [(7, .long (lN (n))), (5, .long (lN (prc e s))), (4, .int (nI (((8) * (g)) + (t)))), (0, .ref (o)), (1, .int (nI (g))), (2, .int (nI (t))), (3, .ref (ad ke))]) (st := []) (pc' := 168) rfl rfl rfl ?_
      refine V.aload_n dX8_trades_168 rfl rfl ?_
      refine Mg16 rfl dX8_trades_169 ?_
      refine V.iload_n dX8_trades_172 rfl rfl ?_
      refine V.dup2_11 dX8_trades_173 rfl rfl ?_
      refine Ml16 (g) rfl (by omega) dX8_trades_174 ?_
      refine V.el (y := lN (co)) hco ?_
      refine V.lload dX8_trades_175 rfl ?_
      refine V.lload dX8_trades_177 rfl ?_
      refine V.lmul dX8_trades_179 ?_
      refine V.el (lN_mul _ _) ?_
      refine V.ladd dX8_trades_180 ?_
      refine V.el (lN_add _ _) ?_
      refine Ms16 (g) rfl (by omega) dX8_trades_181 ?_
      refine V.aload_n dX8_trades_182 rfl rfl ?_
      refine Mg21 rfl dX8_trades_183 ?_
      refine V.iload dX8_trades_186 rfl ?_
      refine V.dup2_11 dX8_trades_188 rfl rfl ?_
      refine Ml21 (((8) * (g)) + (t)) rfl (by omega) dX8_trades_189 ?_
      refine V.el (y := lN (s.1.1)) hs.1 ?_
      refine V.lload dX8_trades_190 rfl ?_
      refine V.ladd dX8_trades_192 ?_
      refine V.el (lN_add _ _) ?_
      refine Ms21 (((8) * (g)) + (t)) rfl (by omega) dX8_trades_193 ?_
      refine V.aload_n dX8_trades_194 rfl rfl ?_
      refine Mg28 rfl dX8_trades_195 ?_
      refine V.iload dX8_trades_198 rfl ?_
      refine V.dup2_11 dX8_trades_200 rfl rfl ?_
      refine Ml28 (((8) * (g)) + (t)) rfl (by omega) dX8_trades_201 ?_
      refine V.el (y := s.2.1.2.2.2.1) hs.2.2.2.2.2.1 ?_
      refine V.lload dX8_trades_202 rfl ?_
      refine V.ladd dX8_trades_204 ?_
      refine Ms28 (((8) * (g)) + (t)) rfl (by omega) dX8_trades_205 ?_
      exact V.vret (u, (up2 (up2 (up2 (up2 J 23 (8 * g + t) (tk n s.2.2 s.2.1.2.2.2.2.2).2) 16 (g) (lN ((co) + ((n) * (prc e s))))) 21 (((8) * (g)) + (t)) (lN ((s.1.1) + (n)))) 28 (((8) * (g)) + (t)) ((s.2.1.2.2.2.1) + (lN (n))))) rfl rfl (by rw [show trd e r ed mo co s = (co + n * prc e s, ((s.1.1 + n, s.1.2), (s.2.1.1, s.2.1.2.1, s.2.1.2.2.1, s.2.1.2.2.2.1 + lN n, s.2.1.2.2.2.2.1, (tk n s.2.2 s.2.1.2.2.2.2.2).2), (tk n s.2.2 s.2.1.2.2.2.2.2).1)) by rw [trd, if_neg hbuy, if_pos hsel, hn]; rfl]; exact ⟨⟨(by simp [up2]), hs.2.1, hs.2.2.1, hs.2.2.2.1, hs.2.2.2.2.1, (by simp [up2]), hs.2.2.2.2.2.2.1, (by simp [up2]), hu.1⟩, by simp [up2], hu.2, (fr.up (Or.inl ⟨by omega, by omega, rfl⟩)).tr (((fr.up (Or.inr ⟨rfl, rfl⟩)).tr (fr.up (Or.inl ⟨by omega, by omega, rfl⟩))).tr (fr.up (Or.inl ⟨by omega, by omega, rfl⟩)))⟩) rfl (by decide) (by decide) dX8_trades_206
  · have hbuy : prc e s ≤ ed 0 := by
      rcases Nat.lt_or_ge (ed 0) (prc e s) with q | q
      · exact absurd ((pk_lLT (by omega) (by omega)).mpr q) c_1
      · exact q
    refine V.aload_n dX8_trades_27 rfl rfl ?_
    refine V.iconst (v := nI (1)) dX8_trades_28 rfl ?_
    refine Mle hke (1) rfl (by omega) dX8_trades_29 ?_
    refine V.ei (y := nI (ed 1)) (hed 1 (by omega)) ?_
    refine V.i2l (v := lN (ed 1)) dX8_trades_30 (nI_l (by omega)) ?_
    refine V.aload_n dX8_trades_31 rfl rfl ?_
    refine V.iload_n dX8_trades_32 rfl rfl ?_
    refine V.iload_n dX8_trades_33 rfl rfl ?_
    refine V.callV0 (c_X8_space _ G o ad sc I J g t r s.2.2 ht (by omega) hr hr2 hs.2.2.2.2.2.2.2.2 ok.1) [.long (lN (ed 1))] 0 9 rfl rfl rfl rfl (goodV kM_X8_173 kI_X8_space kV_X8_space kN_X8 kC_X8_space) ds_X8_space (by decide) (Nat.le_of_ble_eq_true rfl) dX8_trades_34 (by decide) (fun u hu => ?_)
    refine V.to (lv' := [(5, .long (lN (prc e s))), (4, .int (nI (((8) * (g)) + (t)))), (0, .ref (o)), (1, .int (nI (g))), (2, .int (nI (t))), (3, .ref (ad ke))]) (st := [.long (lN (r - tsum s.2.2)), .long (lN (ed 1))]) (pc' := 37) rfl rfl rfl ?_
    refine V.aload_n dX8_trades_37 rfl rfl ?_
    refine Mg21 rfl dX8_trades_38 ?_
    refine V.iload dX8_trades_41 rfl ?_
    refine Ml21 (((8) * (g)) + (t)) rfl (by omega) dX8_trades_43 ?_
    refine V.el (y := lN (s.1.1)) hs.1 ?_
    refine V.callSE (c_X8_least _ G (lN (r - tsum s.2.2)) (lN (s.1.1))) [.long (lN (ed 1))] rfl (goodS kM_X8_177 kS_X8_least kN_X8 kC_X8_least) ds_X8_least (by decide) (Nat.le_of_ble_eq_true rfl) dX8_trades_44 (by decide) (fun u hu => ?_)
    refine V.to (lv' := [(5, .long (lN (prc e s))), (4, .int (nI (((8) * (g)) + (t)))), (0, .ref (o)), (1, .int (nI (g))), (2, .int (nI (t))), (3, .ref (ad ke))]) (st := [.long (if lN (r - tsum s.2.2) < lN (s.1.1) then lN (r - tsum s.2.2) else lN (s.1.1)), .long (lN (ed 1))]) (pc' := 47) rfl rfl rfl ?_
    refine V.el (leastN (by omega) (by omega)) ?_
    refine V.callSE (c_X8_least _ G (lN (ed 1)) (lN (min (r - tsum s.2.2) (s.1.1)))) [] rfl (goodS kM_X8_177 kS_X8_least kN_X8 kC_X8_least) ds_X8_least (by decide) (Nat.le_of_ble_eq_true rfl) dX8_trades_47 (by decide) (fun u hu => ?_)
    refine V.to (lv' := [(5, .long (lN (prc e s))), (4, .int (nI (((8) * (g)) + (t)))), (0, .ref (o)), (1, .int (nI (g))), (2, .int (nI (t))), (3, .ref (ad ke))]) (st := [.long (if lN (ed 1) < lN (min (r - tsum s.2.2) (s.1.1)) then lN (ed 1) else lN (min (r - tsum s.2.2) (s.1.1)))]) (pc' := 50) rfl rfl rfl ?_
    refine V.el (leastN (by omega) (by omega)) ?_
    refine V.lstore (lv' := [(7, .long (lN (min (ed 1) (min (r - tsum s.2.2) (s.1.1))))), (5, .long (lN (prc e s))), (4, .int (nI (((8) * (g)) + (t)))), (0, .ref (o)), (1, .int (nI (g))), (2, .int (nI (t))), (3, .ref (ad ke))]) dX8_trades_50 (by decide) rfl ?_
    refine V.lload dX8_trades_52 rfl ?_
    refine V.lconst (v := lN 0) dX8_trades_54 rfl ?_
    refine V.lc_ne (tgt := 64) dX8_trades_55 dX8_trades_56 (by decide) (fun c_3 => ?_) (fun c_3 => ?_)
    · have hp0 : ¬ prc e s = 0 := fun q => c_3 (by rw [q])
      refine V.lload dX8_trades_64 rfl ?_
      refine V.aload_n dX8_trades_66 rfl rfl ?_
      refine Mg16 rfl dX8_trades_67 ?_
      refine V.iload_n dX8_trades_70 rfl rfl ?_
      refine Ml16 (g) rfl (by omega) dX8_trades_71 ?_
      refine V.el (y := lN (co)) hco ?_
      refine V.lload dX8_trades_72 rfl ?_
      refine V.ldiv dX8_trades_74 (fun q => hp0 ((pk_lEQ (b := 0) (by omega) (by omega)).mp q)) ?_
      refine V.el (y := lN (co / prc e s)) (pk_lDiv (by omega) (by omega) (by omega)) ?_
      have hdv := Nat.div_le_self co (prc e s)
      refine V.callSE (c_X8_least _ G (lN (min (ed 1) (min (r - tsum s.2.2) (s.1.1)))) (lN (co / prc e s))) [] rfl (goodS kM_X8_177 kS_X8_least kN_X8 kC_X8_least) ds_X8_least (by decide) (Nat.le_of_ble_eq_true rfl) dX8_trades_75 (by decide) (fun u hu => ?_)
      refine V.to (lv' := [(7, .long (lN (min (ed 1) (min (r - tsum s.2.2) (s.1.1))))), (5, .long (lN (prc e s))), (4, .int (nI (((8) * (g)) + (t)))), (0, .ref (o)), (1, .int (nI (g))), (2, .int (nI (t))), (3, .ref (ad ke))]) (st := [.long (if lN (min (ed 1) (min (r - tsum s.2.2) (s.1.1))) < lN (co / prc e s) then lN (min (ed 1) (min (r - tsum s.2.2) (s.1.1))) else lN (co / prc e s))]) (pc' := 78) rfl rfl rfl ?_
      refine V.el (leastN (by omega) (by omega)) ?_
      refine V.el (y := lN (buyN e r ed co s)) (by rw [buyN, if_neg hp0]; rfl) ?_
      have hb := buy_le e r ed co s
      have hbc := buy_cost e r ed co s
      obtain ⟨n, hn⟩ : ∃ n, buyN e r ed co s = n := ⟨_, rfl⟩
      rw [hn] at hb hbc
      refine V.el (y := lN (n)) (by rw [hn]) ?_
      refine V.lstore (lv' := [(7, .long (lN (n))), (5, .long (lN (prc e s))), (4, .int (nI (((8) * (g)) + (t)))), (0, .ref (o)), (1, .int (nI (g))), (2, .int (nI (t))), (3, .ref (ad ke))]) dX8_trades_78 (by decide) rfl ?_
      refine V.aload_n dX8_trades_80 rfl rfl ?_
      refine Mg16 rfl dX8_trades_81 ?_
      refine V.iload_n dX8_trades_84 rfl rfl ?_
      refine V.dup2_11 dX8_trades_85 rfl rfl ?_
      refine Ml16 (g) rfl (by omega) dX8_trades_86 ?_
      refine V.el (y := lN (co)) hco ?_
      refine V.lload dX8_trades_87 rfl ?_
      refine V.lload dX8_trades_89 rfl ?_
      refine V.lmul dX8_trades_91 ?_
      refine V.el (lN_mul _ _) ?_
      refine V.lsub dX8_trades_92 ?_
      refine V.el (y := lN (co - (n) * (prc e s))) (lN_sub (by omega)) ?_
      refine Ms16 (g) rfl (by omega) dX8_trades_93 ?_
      refine V.aload_n dX8_trades_94 rfl rfl ?_
      refine Mg21 rfl dX8_trades_95 ?_
      refine V.iload dX8_trades_98 rfl ?_
      refine V.dup2_11 dX8_trades_100 rfl rfl ?_
      refine Ml21 (((8) * (g)) + (t)) rfl (by omega) dX8_trades_101 ?_
      refine V.el (y := lN (s.1.1)) hs.1 ?_
      refine V.lload dX8_trades_102 rfl ?_
      refine V.lsub dX8_trades_104 ?_
      refine V.el (y := lN (s.1.1 - n)) (lN_sub (by omega)) ?_
      refine Ms21 (((8) * (g)) + (t)) rfl (by omega) dX8_trades_105 ?_
      refine V.aload_n dX8_trades_106 rfl rfl ?_
      refine Mg27 rfl dX8_trades_107 ?_
      refine V.iload dX8_trades_110 rfl ?_
      refine V.dup2_11 dX8_trades_112 rfl rfl ?_
      refine Ml27 (((8) * (g)) + (t)) rfl (by omega) dX8_trades_113 ?_
      refine V.el (y := s.2.1.2.2.1) hs.2.2.2.2.1 ?_
      refine V.lload dX8_trades_114 rfl ?_
      refine V.ladd dX8_trades_116 ?_
      refine Ms27 (((8) * (g)) + (t)) rfl (by omega) dX8_trades_117 ?_
      refine V.aload_n dX8_trades_118 rfl rfl ?_
      refine V.iload dX8_trades_119 rfl ?_
      refine V.lload dX8_trades_121 rfl ?_
      refine V.aload_n dX8_trades_123 rfl rfl ?_
      refine Mg15 rfl dX8_trades_124 ?_
      refine V.iload_n dX8_trades_127 rfl rfl ?_
      refine Ml15 (g) rfl (by omega) dX8_trades_128 ?_
      refine V.ei (y := nI (mo)) hmo ?_
      refine V.callV0 (c_X8_comes _ G o ad sc I (up2 (up2 (up2 J 16 (g) (lN (co - (n) * (prc e s)))) 21 (((8) * (g)) + (t)) (lN (s.1.1 - n))) 27 (((8) * (g)) + (t)) ((s.2.1.2.2.1) + (lN (n)))) (8 * g + t) n mo s.2.2 (by omega) hs.2.2.2.2.2.2.2.2 ok.1.1 (by omega) ok.1.2.2 hmo2) [] 0 9 rfl rfl rfl rfl (goodV kM_X8_181 kI_X8_comes kV_X8_comes kN_X8 kC_X8_comes) ds_X8_comes (by decide) (Nat.le_of_ble_eq_true rfl) dX8_trades_129 (by decide) (fun u hu => ?_)
      refine V.to (lv' := [(7, .long (lN (n))), (5, .long (lN (prc e s))), (4, .int (nI (((8) * (g)) + (t)))), (0, .ref (o)), (1, .int (nI (g))), (2, .int (nI (t))), (3, .ref (ad ke))]) (st := []) (pc' := 132) rfl rfl rfl ?_
      refine V.goto (tgt := 206) dX8_trades_132 (by decide) ?_
      exact V.vret (u, (up2 (up2 (up2 J 16 (g) (lN (co - (n) * (prc e s)))) 21 (((8) * (g)) + (t)) (lN (s.1.1 - n))) 27 (((8) * (g)) + (t)) ((s.2.1.2.2.1) + (lN (n))))) rfl rfl (by rw [show trd e r ed mo co s = (co - n * prc e s, ((s.1.1 - n, s.1.2), (s.2.1.1, s.2.1.2.1, s.2.1.2.2.1 + lN n, s.2.1.2.2.2.1, s.2.1.2.2.2.2.1, s.2.1.2.2.2.2.2), pt n mo s.2.2)) by rw [trd, if_pos hbuy, hn]; rfl]; exact ⟨⟨(by simp [up2]), hs.2.1, hs.2.2.1, hs.2.2.2.1, (by simp [up2]), hs.2.2.2.2.2.1, hs.2.2.2.2.2.2.1, hs.2.2.2.2.2.2.2.1, hu.1⟩, by simp [up2], hu.2, ((fr.up (Or.inr ⟨rfl, rfl⟩)).tr (fr.up (Or.inl ⟨by omega, by omega, rfl⟩))).tr (fr.up (Or.inl ⟨by omega, by omega, rfl⟩))⟩) rfl (by decide) (by decide) dX8_trades_206
    · have hp0 : prc e s = 0 := (pk_lEQ (b := 0) (by omega) (by omega)).mp c_3
      refine V.lload dX8_trades_59 rfl ?_
      refine V.el (y := lN (buyN e r ed co s)) (by rw [buyN, if_pos hp0]; rfl) ?_
      have hb := buy_le e r ed co s
      have hbc := buy_cost e r ed co s
      obtain ⟨n, hn⟩ : ∃ n, buyN e r ed co s = n := ⟨_, rfl⟩
      rw [hn] at hb hbc
      refine V.el (y := lN (n)) (by rw [hn]) ?_
      skip
      refine V.goto (tgt := 78) dX8_trades_61 (by decide) ?_
      refine V.lstore (lv' := [(7, .long (lN (n))), (5, .long (lN (prc e s))), (4, .int (nI (((8) * (g)) + (t)))), (0, .ref (o)), (1, .int (nI (g))), (2, .int (nI (t))), (3, .ref (ad ke))]) dX8_trades_78 (by decide) rfl ?_
      refine V.aload_n dX8_trades_80 rfl rfl ?_
      refine Mg16 rfl dX8_trades_81 ?_
      refine V.iload_n dX8_trades_84 rfl rfl ?_
      refine V.dup2_11 dX8_trades_85 rfl rfl ?_
      refine Ml16 (g) rfl (by omega) dX8_trades_86 ?_
      refine V.el (y := lN (co)) hco ?_
      refine V.lload dX8_trades_87 rfl ?_
      refine V.lload dX8_trades_89 rfl ?_
      refine V.lmul dX8_trades_91 ?_
      refine V.el (lN_mul _ _) ?_
      refine V.lsub dX8_trades_92 ?_
      refine V.el (y := lN (co - (n) * (prc e s))) (lN_sub (by omega)) ?_
      refine Ms16 (g) rfl (by omega) dX8_trades_93 ?_
      refine V.aload_n dX8_trades_94 rfl rfl ?_
      refine Mg21 rfl dX8_trades_95 ?_
      refine V.iload dX8_trades_98 rfl ?_
      refine V.dup2_11 dX8_trades_100 rfl rfl ?_
      refine Ml21 (((8) * (g)) + (t)) rfl (by omega) dX8_trades_101 ?_
      refine V.el (y := lN (s.1.1)) hs.1 ?_
      refine V.lload dX8_trades_102 rfl ?_
      refine V.lsub dX8_trades_104 ?_
      refine V.el (y := lN (s.1.1 - n)) (lN_sub (by omega)) ?_
      refine Ms21 (((8) * (g)) + (t)) rfl (by omega) dX8_trades_105 ?_
      refine V.aload_n dX8_trades_106 rfl rfl ?_
      refine Mg27 rfl dX8_trades_107 ?_
      refine V.iload dX8_trades_110 rfl ?_
      refine V.dup2_11 dX8_trades_112 rfl rfl ?_
      refine Ml27 (((8) * (g)) + (t)) rfl (by omega) dX8_trades_113 ?_
      refine V.el (y := s.2.1.2.2.1) hs.2.2.2.2.1 ?_
      refine V.lload dX8_trades_114 rfl ?_
      refine V.ladd dX8_trades_116 ?_
      refine Ms27 (((8) * (g)) + (t)) rfl (by omega) dX8_trades_117 ?_
      refine V.aload_n dX8_trades_118 rfl rfl ?_
      refine V.iload dX8_trades_119 rfl ?_
      refine V.lload dX8_trades_121 rfl ?_
      refine V.aload_n dX8_trades_123 rfl rfl ?_
      refine Mg15 rfl dX8_trades_124 ?_
      refine V.iload_n dX8_trades_127 rfl rfl ?_
      refine Ml15 (g) rfl (by omega) dX8_trades_128 ?_
      refine V.ei (y := nI (mo)) hmo ?_
      refine V.callV0 (c_X8_comes _ G o ad sc I (up2 (up2 (up2 J 16 (g) (lN (co - (n) * (prc e s)))) 21 (((8) * (g)) + (t)) (lN (s.1.1 - n))) 27 (((8) * (g)) + (t)) ((s.2.1.2.2.1) + (lN (n)))) (8 * g + t) n mo s.2.2 (by omega) hs.2.2.2.2.2.2.2.2 ok.1.1 (by omega) ok.1.2.2 hmo2) [] 0 9 rfl rfl rfl rfl (goodV kM_X8_181 kI_X8_comes kV_X8_comes kN_X8 kC_X8_comes) ds_X8_comes (by decide) (Nat.le_of_ble_eq_true rfl) dX8_trades_129 (by decide) (fun u hu => ?_)
      refine V.to (lv' := [(7, .long (lN (n))), (5, .long (lN (prc e s))), (4, .int (nI (((8) * (g)) + (t)))), (0, .ref (o)), (1, .int (nI (g))), (2, .int (nI (t))), (3, .ref (ad ke))]) (st := []) (pc' := 132) rfl rfl rfl ?_
      refine V.goto (tgt := 206) dX8_trades_132 (by decide) ?_
      exact V.vret (u, (up2 (up2 (up2 J 16 (g) (lN (co - (n) * (prc e s)))) 21 (((8) * (g)) + (t)) (lN (s.1.1 - n))) 27 (((8) * (g)) + (t)) ((s.2.1.2.2.1) + (lN (n))))) rfl rfl (by rw [show trd e r ed mo co s = (co - n * prc e s, ((s.1.1 - n, s.1.2), (s.2.1.1, s.2.1.2.1, s.2.1.2.2.1 + lN n, s.2.1.2.2.2.1, s.2.1.2.2.2.2.1, s.2.1.2.2.2.2.2), pt n mo s.2.2)) by rw [trd, if_pos hbuy, hn]; rfl]; exact ⟨⟨(by simp [up2]), hs.2.1, hs.2.2.1, hs.2.2.2.1, (by simp [up2]), hs.2.2.2.2.2.1, hs.2.2.2.2.2.2.1, hs.2.2.2.2.2.2.2.1, hu.1⟩, by simp [up2], hu.2, ((fr.up (Or.inr ⟨rfl, rfl⟩)).tr (fr.up (Or.inl ⟨by omega, by omega, rfl⟩))).tr (fr.up (Or.inl ⟨by omega, by omega, rfl⟩))⟩) rfl (by decide) (by decide) dX8_trades_206
set_option maxHeartbeats 4000000 in
set_option maxRecDepth 20000 in
theorem c_X8_turns (l : Launch) (G : GG) (o : Nat) (ad : Nat → Nat) (sc : Int32 × Int32 × Int32) (I : Nat → Nat → Int32) (J : Nat → Nat → Int64) (x r mo oo : Nat) (s : ST) (hx : x < 16) (hs : slotR I J x s) (ok : okS r s) (hmo2 : mo ≤ 4000) (ho : 1 ≤ oo) (ho2 : oo ≤ 9999) : Ct l G yX8_turns cX8_turns 6 none rm_X8_turns [.ref (o), .int (nI (x)), .int (nI (mo)), .int (nI (oo))] (mw G o ad sc I J) (fun u : (Nat → Nat → Int32) × (Nat → Nat → Int64) => mw G o ad sc u.1 u.2) (fun u : (Nat → Nat → Int32) × (Nat → Nat → Int64) => none) (fun u : (Nat → Nat → Int32) × (Nat → Nat → Int64) => slotR u.1 u.2 x (trn oo mo s) ∧ fr (pS x) I u.1 ∧ fr (pX x) J u.2) := by
  refine Ct.of (by decide) (Nat.le_of_ble_eq_true rfl) (fun X A hX => ?_)
  subst hX
  refine V.to (lv' := [(0, .ref (o)), (1, .int (nI (x))), (2, .int (nI (mo))), (3, .int (nI (oo)))]) (st := []) (pc' := 0) rfl rfl rfl ?_
  have hk1 := ok.2.1
  have hk2 := ok.2.2.1
  have hk3 := ok.1.2.1
  refine V.aload_n dX8_turns_0 rfl rfl ?_
  refine V.iload_n dX8_turns_1 rfl rfl ?_
  refine V.callV0 (c_X8_trueIn _ G o ad sc I J x s.2.2 hx hs.2.2.2.2.2.2.2.2 ok.1) [] 0 9 rfl rfl rfl rfl (goodV kM_X8_169 kI_X8_trueIn kV_X8_trueIn kN_X8 kC_X8_trueIn) ds_X8_trueIn (by decide) (Nat.le_of_ble_eq_true rfl) dX8_turns_2 (by decide) (fun u hu => ?_)
  refine V.to (lv' := [(0, .ref (o)), (1, .int (nI (x))), (2, .int (nI (mo))), (3, .int (nI (oo)))]) (st := [.long (lN (tsum s.2.2))]) (pc' := 5) rfl rfl rfl ?_
  refine V.iload_n dX8_turns_5 rfl rfl ?_
  refine V.i2l (v := lN (oo)) dX8_turns_6 (nI_l (by omega)) ?_
  refine V.ladd dX8_turns_7 ?_
  refine V.el (lN_add _ _) ?_
  refine V.lconst (v := lN 1) dX8_turns_8 rfl ?_
  refine V.lsub dX8_turns_9 ?_
  refine V.el (y := lN (tsum s.2.2 + oo - 1)) (lN_sub (by omega)) ?_
  refine V.iload_n dX8_turns_10 rfl rfl ?_
  refine V.i2l (v := lN (oo)) dX8_turns_11 (nI_l (by omega)) ?_
  refine V.ldiv dX8_turns_12 (fun q => by have := (pk_lEQ (b := 0) (by omega) (by omega)).mp q; omega) ?_
  refine V.el (y := lN ((tsum s.2.2 + oo - 1) / oo)) (pk_lDiv (by omega) (by omega) (by omega)) ?_
  refine V.aload_n dX8_turns_13 rfl rfl ?_
  refine Mg21 rfl dX8_turns_14 ?_
  refine V.iload_n dX8_turns_17 rfl rfl ?_
  refine Ml21 (x) rfl (by omega) dX8_turns_18 ?_
  refine V.el (y := lN (s.1.1)) hs.1 ?_
  have hdv := Nat.div_le_self (tsum s.2.2 + oo - 1) oo
  refine V.callSE (c_X8_least _ G (lN ((tsum s.2.2 + oo - 1) / oo)) (lN (s.1.1))) [] rfl (goodS kM_X8_177 kS_X8_least kN_X8 kC_X8_least) ds_X8_least (by decide) (Nat.le_of_ble_eq_true rfl) dX8_turns_19 (by decide) (fun u hu => ?_)
  refine V.to (lv' := [(0, .ref (o)), (1, .int (nI (x))), (2, .int (nI (mo))), (3, .int (nI (oo)))]) (st := [.long (if lN ((tsum s.2.2 + oo - 1) / oo) < lN (s.1.1) then lN ((tsum s.2.2 + oo - 1) / oo) else lN (s.1.1))]) (pc' := 22) rfl rfl rfl ?_
  refine V.el (leastN (by omega) (by omega)) ?_
  obtain ⟨n, hn⟩ : ∃ n, trnN oo s = n := ⟨_, rfl⟩
  have hsn : n ≤ 100000 := by rw [← hn]; simp only [trnN]; have := Nat.div_le_self (tsum s.2.2 + oo - 1) oo; omega
  refine V.el (y := lN (n)) (by rw [← hn]; rfl) ?_
  refine V.lstore (lv' := [(4, .long (lN (n))), (0, .ref (o)), (1, .int (nI (x))), (2, .int (nI (mo))), (3, .int (nI (oo)))]) dX8_turns_22 (by decide) rfl ?_
  refine V.aload_n dX8_turns_24 rfl rfl ?_
  refine V.iload_n dX8_turns_25 rfl rfl ?_
  refine V.lload dX8_turns_26 rfl ?_
  refine V.callV0 (c_X8_takes _ G o ad sc I J x n s.2.2 hx hs.2.2.2.2.2.2.2.2 ok.1.1 (fun q hq => Nat.le_trans (tsum_mem hq) ok.1.2.1) (by omega)) [] 0 9 rfl rfl rfl rfl (goodV kM_X8_188 kI_X8_takes kV_X8_takes kN_X8 kC_X8_takes) ds_X8_takes (by decide) (Nat.le_of_ble_eq_true rfl) dX8_turns_28 (by decide) (fun u hu => ?_)
  rw [hs.2.2.2.2.2.2.2.1] at hu
  refine V.wd (ws' := mw G o ad sc u (up2 J 23 x (tk n s.2.2 s.2.1.2.2.2.2.2).2)) (by rw [hs.2.2.2.2.2.2.2.1]) ?_
  refine V.to (lv' := [(4, .long (lN (n))), (0, .ref (o)), (1, .int (nI (x))), (2, .int (nI (mo))), (3, .int (nI (oo)))]) (st := []) (pc' := 31) rfl rfl rfl ?_
  refine V.aload_n dX8_turns_31 rfl rfl ?_
  refine V.iload_n dX8_turns_32 rfl rfl ?_
  refine V.lload dX8_turns_33 rfl ?_
  refine V.iload_n dX8_turns_35 rfl rfl ?_
  refine V.callV0 (c_X8_comes _ G o ad sc u (up2 J 23 x (tk n s.2.2 s.2.1.2.2.2.2.2).2) x n mo (tk n s.2.2 s.2.1.2.2.2.2.2).1 hx hu.1 (Nat.le_trans (tk_len _ _ _) ok.1.1) (by omega) (tk_mo (P := fun q => q ≤ 4000) _ _ _ ok.1.2.2) hmo2) [] 0 9 rfl rfl rfl rfl (goodV kM_X8_181 kI_X8_comes kV_X8_comes kN_X8 kC_X8_comes) ds_X8_comes (by decide) (Nat.le_of_ble_eq_true rfl) dX8_turns_36 (by decide) (fun u2 hu2 => ?_)
  refine V.to (lv' := [(4, .long (lN (n))), (0, .ref (o)), (1, .int (nI (x))), (2, .int (nI (mo))), (3, .int (nI (oo)))]) (st := []) (pc' := 39) rfl rfl rfl ?_
  exact V.vret (u2, (up2 J 23 x (tk n s.2.2 s.2.1.2.2.2.2.2).2)) rfl rfl (by rw [show trn oo mo s = (s.1, (s.2.1.1, s.2.1.2.1, s.2.1.2.2.1, s.2.1.2.2.2.1, s.2.1.2.2.2.2.1, (tk n s.2.2 s.2.1.2.2.2.2.2).2), pt n mo (tk n s.2.2 s.2.1.2.2.2.2.2).1) by rw [trn, hn]]; exact ⟨⟨hs.1, hs.2.1, hs.2.2.1, hs.2.2.2.1, hs.2.2.2.2.1, hs.2.2.2.2.2.1, hs.2.2.2.2.2.2.1, (by simp [up2]), hu2.1⟩, hu.2.tr hu2.2, fr.up ⟨by omega, by omega, rfl⟩⟩) rfl (by decide) (by decide) dX8_turns_39
-- SPOILS
set_option maxHeartbeats 4000000 in
set_option maxRecDepth 20000 in
theorem c_X8_spoils (l : Launch) (G : GG) (o : Nat) (ad : Nat → Nat) (sc : Int32 × Int32 × Int32) (I : Nat → Nat → Int32) (J : Nat → Nat → Int64) (x r mo ke : Nat) (ed : Nat → Nat) (s : ST) (hx : x < 16) (hke : ke = 2 ∨ ke = 3) (hs : slotR I J x s) (ok : okS r s) (hmo2 : mo ≤ 4000) (hmo3 : ∀ l ∈ s.2.2, l.1 ≤ mo) (hed : ∀ j, j < 8 → I ke j = nI (ed j)) (hed2 : ∀ j, j < 8 → ed j ≤ 9999) (hp : ed 6 ≤ 100) : Ct l G yX8_spoils cX8_spoils 7 none rm_X8_spoils [.ref (o), .int (nI (x)), .int (nI (mo)), .ref (ad ke)] (mw G o ad sc I J) (fun u : (Nat → Nat → Int32) × (Nat → Nat → Int64) => mw G o ad sc u.1 u.2) (fun u : (Nat → Nat → Int32) × (Nat → Nat → Int64) => none) (fun u : (Nat → Nat → Int32) × (Nat → Nat → Int64) => slotR u.1 u.2 x (spo mo (ed 5) (ed 6) s) ∧ fr (pS x) I u.1 ∧ fr (pX x) J u.2) := by
  refine Ct.of (by decide) (Nat.le_of_ble_eq_true rfl) (fun X A hX => ?_)
  subst hX
  refine V.to (lv' := [(0, .ref (o)), (1, .int (nI (x))), (2, .int (nI (mo))), (3, .ref (ad ke))]) (st := []) (pc' := 0) rfl rfl rfl ?_
  have hk1 := ok.2.1
  have hk3 := ok.1.2.1
  have hk4 := ok.1.1
  have hq5 := hed2 5 (by omega)
  have jsp : ∀ (k w : Nat) (f1 y : Int64), up2 (up2 (up2 (up2 J 25 x (J 25 x + lN k)) 23 x f1) 25 x (J 25 x + lN k + lN w)) 23 x ((up2 (up2 (up2 J 25 x (J 25 x + lN k)) 23 x f1) 25 x (J 25 x + lN k + lN w)) 23 x + y) = up2 (up2 J 25 x (J 25 x + lN (k + w))) 23 x (f1 + y) := by
    intro k w f1 y; rw [Int64.add_assoc, lN_add]; funext a b; by_cases h1 : a = 23 <;> by_cases h2 : a = 25 <;> by_cases h3 : b = x <;> simp [up2, h1, h2, h3] <;> omega
  have jsp2 : ∀ (k w : Nat) (f1 : Int64), up2 (up2 (up2 J 25 x (J 25 x + lN k)) 23 x f1) 25 x (J 25 x + lN k + lN w) = up2 (up2 J 25 x (J 25 x + lN (k + w))) 23 x f1 := by
    intro k w f1; rw [Int64.add_assoc, lN_add]; funext a b; by_cases h1 : a = 23 <;> by_cases h2 : a = 25 <;> by_cases h3 : b = x <;> simp [up2, h1, h2, h3] <;> omega
  have loop : ∀ (d : Nat) (D r1 : List Lt) (I1 : Nat → Nat → Int32) (f1 : Int64) (k : Nat), r1.length < d → rowR I1 x (D ++ r1) → (D ++ r1).length ≤ 40 → (∀ l ∈ D ++ r1, l.1 ≤ mo ∧ l.2.2.1 ≤ 50000) → (D ++ (sp mo (ed 5) (ed 6) r1 f1 k).1, (sp mo (ed 5) (ed 6) r1 f1 k).2) = sp mo (ed 5) (ed 6) s.2.2 s.2.1.2.2.2.2.2 0 → fr (pS x) I I1 → V G X yX8_spoils cX8_spoils 7 none rm_X8_spoils A (MZ G X rm_X8_spoils A (fun u : (Nat → Nat → Int32) × (Nat → Nat → Int64) => mw G o ad sc u.1 u.2) (fun u : (Nat → Nat → Int32) × (Nat → Nat → Int64) => none) (fun u : (Nat → Nat → Int32) × (Nat → Nat → Int64) => slotR u.1 u.2 x (spo mo (ed 5) (ed 6) s) ∧ fr (pS x) I u.1 ∧ fr (pX x) J u.2)) 0 0 (mw G o ad sc I1 (up2 (up2 J 25 x (J 25 x + lN k)) 23 x f1)) [(4, .int (nI (D.length))), (0, .ref (o)), (1, .int (nI (x))), (2, .int (nI (mo))), (3, .ref (ad ke))] 3 [] := by
    intro d
    induction d with
    | zero => intro D r1 I1 f1 k hd; exact absurd hd (Nat.not_lt_zero _)
    | succ d ih =>
      intro D r1 I1 f1 k hd hr hl40 hmr hsp hfr
      have he5 : I1 ke 5 = nI (ed 5) := by rw [hfr ke 5 (by simp [pS]; omega)]; exact hed 5 (by omega)
      have he6 : I1 ke 6 = nI (ed 6) := by rw [hfr ke 6 (by simp [pS]; omega)]; exact hed 6 (by omega)
      refine V.iload dX8_spoils_3 rfl ?_
      refine V.aload_n dX8_spoils_5 rfl rfl ?_
      refine Mg22 rfl dX8_spoils_6 ?_
      refine V.iload_n dX8_spoils_9 rfl rfl ?_
      refine Ml22 (x) rfl (by omega) dX8_spoils_10 ?_
      refine V.ei (y := nI ((D ++ r1).length)) hr.1 ?_
      refine V.icmp_ge (tgt := 131) dX8_spoils_11 (by decide) (fun c_1 => ?_) (fun c_1 => ?_)
      · have he : r1 = [] := by
          cases r1 with
          | nil => rfl
          | cons q1 q2 => exact absurd ((nI_leI (by omega) (by simp at hl40 ⊢; omega)).mp c_1) (by simp)
        subst he
        have hsp2 := hsp
        simp only [sp, List.append_nil] at hsp2 hr
        exact V.vret (I1, (up2 (up2 J 25 x (J 25 x + lN k)) 23 x f1)) rfl rfl ⟨by rw [spo, ← hsp2]; exact ⟨hs.1, hs.2.1, hs.2.2.1, (by show up2 (up2 J 25 x (J 25 x + lN k)) 23 x f1 25 x = s.2.1.2.1 + lN k; rw [up2_k _ _ (by decide), up2_s, hs.2.2.2.1]), hs.2.2.2.2.1, hs.2.2.2.2.2.1, hs.2.2.2.2.2.2.1, (show up2 (up2 J 25 x (J 25 x + lN k)) 23 x f1 23 x = f1 from up2_s _ _ _ _), hr⟩, hfr, (fr.up ⟨by omega, by omega, rfl⟩).tr (fr.up ⟨by omega, by omega, rfl⟩)⟩ rfl (by decide) (by decide) dX8_spoils_131
      · obtain ⟨l, r2, rfl⟩ : ∃ l r2, r1 = l :: r2 := by
          cases r1 with
          | nil => exact absurd (by simp; exact nI_le (Nat.le_refl _) (by simp at hl40; omega)) c_1
          | cons q1 q2 => exact ⟨q1, q2, rfl⟩
        have hDl : D.length < 40 := by simp at hl40; omega
        have hm1 := hmr l (by simp)
        have hsl := spl_le (t := l.2.2.1) hp
        have hmul : l.2.2.1 * ed 6 ≤ 50000 * 100 := Nat.mul_le_mul hm1.2 hp
        refine V.bipush (v := nI (40)) dX8_spoils_14 rfl ?_
        refine V.iload_n dX8_spoils_16 rfl rfl ?_
        refine V.imul dX8_spoils_17 ?_
        refine V.ei (pk_mul _ _) ?_
        refine V.iload dX8_spoils_18 rfl ?_
        refine V.iadd dX8_spoils_20 ?_
        refine V.ei (nI_add _ _) ?_
        refine V.istore (lv' := [(5, .int (nI (((40) * (x)) + (D.length)))), (4, .int (nI (D.length))), (0, .ref (o)), (1, .int (nI (x))), (2, .int (nI (mo))), (3, .ref (ad ke))]) dX8_spoils_21 (by decide) rfl ?_
        refine V.iload_n dX8_spoils_23 rfl rfl ?_
        refine V.aload_n dX8_spoils_24 rfl rfl ?_
        refine Mg30 rfl dX8_spoils_25 ?_
        refine V.iload dX8_spoils_28 rfl ?_
        refine Ml30 (((40) * (x)) + (D.length)) rfl (by omega) dX8_spoils_30 ?_
        refine V.ei (y := nI (l.1)) (hr.2 D.length l mid_at).1 ?_
        refine V.isub dX8_spoils_31 ?_
        refine V.ei (y := nI (mo - l.1)) (pk_sub (by omega)) ?_
        refine V.aload_n dX8_spoils_32 rfl rfl ?_
        refine V.iconst (v := nI (5)) dX8_spoils_33 rfl ?_
        refine Mle hke (5) rfl (by omega) dX8_spoils_34 ?_
        refine V.ei (y := nI (ed 5)) he5 ?_
        refine V.icmp_ge (tgt := 41) dX8_spoils_35 (by decide) (fun c_2 => ?_) (fun c_2 => ?_)
        · have hage : ¬ mo < l.1 + ed 5 := by have := (nI_leI (by omega) (by omega)).mp c_2; omega
          refine V.aload_n dX8_spoils_41 rfl rfl ?_
          refine Mg32 rfl dX8_spoils_42 ?_
          refine V.iload dX8_spoils_45 rfl ?_
          refine Ml32 (((40) * (x)) + (D.length)) rfl (by omega) dX8_spoils_47 ?_
          refine V.ei (y := nI (l.2.2.1)) (hr.2 D.length l mid_at).2.2.1 ?_
          refine V.i2l (v := lN (l.2.2.1)) dX8_spoils_48 (nI_l (by omega)) ?_
          refine V.aload_n dX8_spoils_49 rfl rfl ?_
          refine V.bipush (v := nI (6)) dX8_spoils_50 rfl ?_
          refine Mle hke (6) rfl (by omega) dX8_spoils_52 ?_
          refine V.ei (y := nI (ed 6)) he6 ?_
          refine V.i2l (v := lN (ed 6)) dX8_spoils_53 (nI_l (by omega)) ?_
          refine V.lmul dX8_spoils_54 ?_
          refine V.el (lN_mul _ _) ?_
          refine V.ldc2 (v := 99) kK_X8_192 dX8_spoils_55 ?_
          refine V.el (y := lN 99) rfl ?_
          refine V.ladd dX8_spoils_58 ?_
          refine V.el (lN_add _ _) ?_
          refine V.ldc2 (v := 100) kK_X8_194 dX8_spoils_59 ?_
          refine V.el (y := lN 100) rfl ?_
          refine V.ldiv dX8_spoils_62 (by decide) ?_
          refine V.el (y := lN (spl (ed 6) l.2.2.1)) (pk_lDiv (by omega) (by omega) (by omega)) ?_
          refine V.l2i (v := nI (spl (ed 6) l.2.2.1)) dX8_spoils_63 (lN_i _) ?_
          refine V.istore (lv' := [(6, .int (nI (spl (ed 6) l.2.2.1))), (5, .int (nI (((40) * (x)) + (D.length)))), (4, .int (nI (D.length))), (0, .ref (o)), (1, .int (nI (x))), (2, .int (nI (mo))), (3, .ref (ad ke))]) dX8_spoils_64 (by decide) rfl ?_
          refine V.aload_n dX8_spoils_66 rfl rfl ?_
          refine Mg32 rfl dX8_spoils_67 ?_
          refine V.iload dX8_spoils_70 rfl ?_
          refine V.dup2_11 dX8_spoils_72 rfl rfl ?_
          refine Ml32 (((40) * (x)) + (D.length)) rfl (by omega) dX8_spoils_73 ?_
          refine V.ei (y := nI (l.2.2.1)) (hr.2 D.length l mid_at).2.2.1 ?_
          refine V.iload dX8_spoils_74 rfl ?_
          refine V.isub dX8_spoils_76 ?_
          refine V.ei (y := nI (l.2.2.1 - spl (ed 6) l.2.2.1)) (pk_sub hsl) ?_
          refine Ms32 (((40) * (x)) + (D.length)) rfl (by omega) dX8_spoils_77 ?_
          refine V.aload_n dX8_spoils_78 rfl rfl ?_
          refine Mg31 rfl dX8_spoils_79 ?_
          refine V.iload dX8_spoils_82 rfl ?_
          refine V.dup2_11 dX8_spoils_84 rfl rfl ?_
          refine Ml31 (((40) * (x)) + (D.length)) rfl (by omega) dX8_spoils_85 ?_
          refine V.ei (y := l.2.1) (hr.2 D.length l mid_at).2.1 ?_
          refine V.iload dX8_spoils_86 rfl ?_
          refine V.isub dX8_spoils_88 ?_
          refine Ms31 (((40) * (x)) + (D.length)) rfl (by omega) dX8_spoils_89 ?_
          refine V.aload_n dX8_spoils_90 rfl rfl ?_
          refine Mg25 rfl dX8_spoils_91 ?_
          refine V.iload_n dX8_spoils_94 rfl rfl ?_
          refine V.dup2_11 dX8_spoils_95 rfl rfl ?_
          refine Ml25 (x) rfl (by omega) dX8_spoils_96 ?_
          refine V.el (y := J 25 x + lN k) (show _ = J 25 x + lN k by rw [up2_k _ _ (by decide), up2_s]) ?_
          refine V.iload dX8_spoils_97 rfl ?_
          refine V.i2l (v := lN (spl (ed 6) l.2.2.1)) dX8_spoils_99 (nI_l (by omega)) ?_
          refine V.ladd dX8_spoils_100 ?_
          refine Ms25 (x) rfl (by omega) dX8_spoils_101 ?_
          refine V.aload_n dX8_spoils_102 rfl rfl ?_
          refine Mg32 rfl dX8_spoils_103 ?_
          refine V.iload dX8_spoils_106 rfl ?_
          refine Ml32 (((40) * (x)) + (D.length)) rfl (by omega) dX8_spoils_108 ?_
          refine V.ei (y := nI (l.2.2.1 - spl (ed 6) l.2.2.1)) (by rw [up2_k _ _ (by decide), up2_s]) ?_
          refine V.if_le (tgt := 115) dX8_spoils_109 (by decide) (fun c_3 => ?_) (fun c_3 => ?_)
          · have hgone : l.2.2.1 - spl (ed 6) l.2.2.1 = 0 := by
              rcases Nat.eq_zero_or_pos (l.2.2.1 - spl (ed 6) l.2.2.1) with q | q
              · exact q
              · exact absurd c_3 (nI_nle q (by omega))
            refine V.aload_n dX8_spoils_115 rfl rfl ?_
            refine V.iload_n dX8_spoils_116 rfl rfl ?_
            refine V.iload dX8_spoils_117 rfl ?_
            refine V.callV0 (c_X8_goes _ G o ad sc (up2 (up2 I1 32 (((40) * (x)) + (D.length)) (nI (l.2.2.1 - spl (ed 6) l.2.2.1))) 31 (((40) * (x)) + (D.length)) ((l.2.1) - (nI (spl (ed 6) l.2.2.1)))) (up2 (up2 (up2 J 25 x (J 25 x + lN k)) 23 x f1) 25 (x) ((J 25 x + lN k) + (lN (spl (ed 6) l.2.2.1)))) x D.length (D ++ (l.1, l.2.1 - nI (spl (ed 6) l.2.2.1), l.2.2.1 - (spl (ed 6) l.2.2.1), l.2.2.2) :: r2) (l.1, l.2.1 - nI (spl (ed 6) l.2.2.1), l.2.2.1 - (spl (ed 6) l.2.2.1), l.2.2.2) hx (by have := rowR_set (b := l.2.1 - nI (spl (ed 6) l.2.2.1)) (t := l.2.2.1 - (spl (ed 6) l.2.2.1)) hr mid_at; rw [set_mid] at this; exact this) (by simpa using hl40) mid_at) [] 0 9 rfl rfl rfl rfl (goodV kM_X8_165 kI_X8_goes kV_X8_goes kN_X8 kC_X8_goes) ds_X8_goes (by decide) (Nat.le_of_ble_eq_true rfl) dX8_spoils_119 (by decide) (fun u hu => ?_)
            rw [erase_mid] at hu
            refine V.wd (ws' := mw G o ad sc u (up2 (up2 J 25 x (J 25 x + lN (k + (spl (ed 6) l.2.2.1)))) 23 x (f1 + (l.2.1 - nI (spl (ed 6) l.2.2.1)).toInt64))) (by rw [jsp]) ?_
            refine V.to (lv' := [(6, .int (nI (spl (ed 6) l.2.2.1))), (5, .int (nI (((40) * (x)) + (D.length)))), (4, .int (nI (D.length))), (0, .ref (o)), (1, .int (nI (x))), (2, .int (nI (mo))), (3, .ref (ad ke))]) (st := []) (pc' := 122) rfl rfl rfl ?_
            refine V.iinc (k := 2) (v := nI (D.length) - nI (1)) (lv' := [(4, .int (nI (D.length) - nI (1))), (6, .int (nI (spl (ed 6) l.2.2.1))), (5, .int (nI (((40) * (x)) + (D.length)))), (0, .ref (o)), (1, .int (nI (x))), (2, .int (nI (mo))), (3, .ref (ad ke))]) dX8_spoils_122 rfl (show nI D.length + Int32.ofInt (-1) = nI D.length - nI 1 by rw [Int32.sub_eq_add_neg]; rfl) (by decide) rfl ?_
            refine V.iinc (k := 0) (v := nI (D.length)) (lv' := [(4, .int (nI (D.length))), (6, .int (nI (spl (ed 6) l.2.2.1))), (5, .int (nI (((40) * (x)) + (D.length)))), (0, .ref (o)), (1, .int (nI (x))), (2, .int (nI (mo))), (3, .ref (ad ke))]) dX8_spoils_125 rfl (sub1_inc _) (by decide) rfl ?_
            refine V.goto (tgt := 3) dX8_spoils_128 (by decide) ?_
            refine V.pick [0, 3, 4, 5, 6] (lv' := [(4, .int (nI (D.length))), (0, .ref (o)), (1, .int (nI (x))), (2, .int (nI (mo))), (3, .ref (ad ke))]) rfl ?_; exact ih D r2 u _ _ (by simp at hd; omega) hu.1 (by simp at hl40 ⊢; omega) (fun q hq => hmr q (by simp at hq ⊢; rcases hq with z | z; exact Or.inl z; exact Or.inr (Or.inr z))) (by rw [← hsp, sp, if_neg hage, if_pos hgone]) ((hfr.tr (set_fr hDl)).tr hu.2)
          · have hgone : ¬ l.2.2.1 - spl (ed 6) l.2.2.1 = 0 := fun q => c_3 (by rw [q]; decide)
            refine V.goto (tgt := 125) dX8_spoils_112 (by decide) ?_
            refine V.iinc (k := 2) (v := nI (D.length + 1)) (lv' := [(4, .int (nI (D.length + 1))), (6, .int (nI (spl (ed 6) l.2.2.1))), (5, .int (nI (((40) * (x)) + (D.length)))), (0, .ref (o)), (1, .int (nI (x))), (2, .int (nI (mo))), (3, .ref (ad ke))]) dX8_spoils_125 rfl (iinc1 _) (by decide) rfl ?_
            refine V.goto (tgt := 3) dX8_spoils_128 (by decide) ?_
            refine V.wd (ws' := mw G o ad sc (up2 (up2 I1 32 (((40) * (x)) + (D.length)) (nI (l.2.2.1 - spl (ed 6) l.2.2.1))) 31 (((40) * (x)) + (D.length)) ((l.2.1) - (nI (spl (ed 6) l.2.2.1)))) (up2 (up2 J 25 x (J 25 x + lN (k + (spl (ed 6) l.2.2.1)))) 23 x f1)) (by rw [jsp2]) ?_
            refine V.to (lv' := [(4, .int (nI ((D ++ [(l.1, l.2.1 - nI (spl (ed 6) l.2.2.1), l.2.2.1 - (spl (ed 6) l.2.2.1), l.2.2.2)]).length))), (6, .int (nI (spl (ed 6) l.2.2.1))), (5, .int (nI (((40) * (x)) + (D.length)))), (0, .ref (o)), (1, .int (nI (x))), (2, .int (nI (mo))), (3, .ref (ad ke))]) (st := []) (pc' := 3) (by rw [show D.length + 1 = (D ++ [(l.1, l.2.1 - nI (spl (ed 6) l.2.2.1), l.2.2.1 - (spl (ed 6) l.2.2.1), l.2.2.2)]).length by simp]) rfl rfl ?_
            refine V.pick [0, 3, 4, 5, 6] (lv' := [(4, .int (nI ((D ++ [(l.1, l.2.1 - nI (spl (ed 6) l.2.2.1), l.2.2.1 - (spl (ed 6) l.2.2.1), l.2.2.2)]).length))), (0, .ref (o)), (1, .int (nI (x))), (2, .int (nI (mo))), (3, .ref (ad ke))]) rfl ?_; exact ih (D ++ [(l.1, l.2.1 - nI (spl (ed 6) l.2.2.1), l.2.2.1 - (spl (ed 6) l.2.2.1), l.2.2.2)]) r2 _ _ _ (by simp at hd; omega) (by have := rowR_set (b := l.2.1 - nI (spl (ed 6) l.2.2.1)) (t := l.2.2.1 - (spl (ed 6) l.2.2.1)) hr mid_at; rw [set_mid] at this; simpa using this) (by simpa using hl40) (fun q hq => by simp at hq; rcases hq with hq | rfl | hq; exact hmr q (by simp [hq]); exact hmr l (by simp); exact hmr q (by simp [hq])) (by rw [← hsp, sp, if_neg hage, if_neg hgone]; simp) (hfr.tr (set_fr hDl))
        · have hage : mo < l.1 + ed 5 := by
            rcases Nat.lt_or_ge (mo - l.1) (ed 5) with q | q
            · omega
            · exact absurd (nI_le q (by omega)) c_2
          refine V.goto (tgt := 125) dX8_spoils_38 (by decide) ?_
          refine V.iinc (k := 1) (v := nI (D.length + 1)) (lv' := [(4, .int (nI (D.length + 1))), (5, .int (nI (((40) * (x)) + (D.length)))), (0, .ref (o)), (1, .int (nI (x))), (2, .int (nI (mo))), (3, .ref (ad ke))]) dX8_spoils_125 rfl (iinc1 _) (by decide) rfl ?_
          refine V.goto (tgt := 3) dX8_spoils_128 (by decide) ?_
          refine V.to (lv' := [(4, .int (nI ((D ++ [l]).length))), (5, .int (nI (((40) * (x)) + (D.length)))), (0, .ref (o)), (1, .int (nI (x))), (2, .int (nI (mo))), (3, .ref (ad ke))]) (st := []) (pc' := 3) (by rw [show D.length + 1 = (D ++ [l]).length by simp]) rfl rfl ?_
          refine V.pick [0, 2, 3, 4, 5] (lv' := [(4, .int (nI ((D ++ [l]).length))), (0, .ref (o)), (1, .int (nI (x))), (2, .int (nI (mo))), (3, .ref (ad ke))]) rfl ?_; exact ih (D ++ [l]) r2 I1 _ _ (by simp at hd; omega) (by simpa using hr) (by simpa using hl40) (fun q hq => hmr q (by simpa using hq)) (by rw [← hsp, sp, if_pos hage]; simp) hfr
end
