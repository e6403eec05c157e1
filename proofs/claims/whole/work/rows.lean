section
def lw_okq (q : MethodName × Nat) : Prop := (q.1.cls ≠ "java/lang/invoke/MethodHandle" ∧ q.1.cls ≠ "java/lang/invoke/VarHandle") ∧ Cond.instantiable q.1.cls q.2 ∈ tables_1 ∧ Cond.privateMethod q.1 ∈ tables_1 ∧ Cond.instanceMethod q.1 ∈ tables_1
theorem lw_p0 : lw_okq (⟨"WideStore", "addEntry", "(LWideStore$Entry;)Z"⟩, 8) := ⟨⟨by decide +kernel, by decide +kernel⟩, List.mem_of_getElem? (i := 15) (by decide +kernel), List.mem_of_getElem? (i := 148) (by decide +kernel), List.mem_of_getElem? (i := 149) (by decide +kernel)⟩
theorem lw_p1 : lw_okq (⟨"WideStore", "flushMemory", "()V"⟩, 8) := ⟨⟨by decide +kernel, by decide +kernel⟩, List.mem_of_getElem? (i := 15) (by decide +kernel), List.mem_of_getElem? (i := 160) (by decide +kernel), List.mem_of_getElem? (i := 161) (by decide +kernel)⟩
theorem lw_p2 : lw_okq (⟨"java/util/ArrayList", "add", "(Ljava/lang/Object;[Ljava/lang/Object;I)V"⟩, 3) := ⟨⟨by decide +kernel, by decide +kernel⟩, List.mem_of_getElem? (i := 31) (by decide +kernel), List.mem_of_getElem? (i := 168) (by decide +kernel), List.mem_of_getElem? (i := 169) (by decide +kernel)⟩
theorem lw_p3 : lw_okq (⟨"java/util/ArrayList", "grow", "()[Ljava/lang/Object;"⟩, 3) := ⟨⟨by decide +kernel, by decide +kernel⟩, List.mem_of_getElem? (i := 31) (by decide +kernel), List.mem_of_getElem? (i := 172) (by decide +kernel), List.mem_of_getElem? (i := 173) (by decide +kernel)⟩
theorem lw_p4 : lw_okq (⟨"java/util/ArrayList", "grow", "(I)[Ljava/lang/Object;"⟩, 3) := ⟨⟨by decide +kernel, by decide +kernel⟩, List.mem_of_getElem? (i := 31) (by decide +kernel), List.mem_of_getElem? (i := 176) (by decide +kernel), List.mem_of_getElem? (i := 177) (by decide +kernel)⟩
theorem lw_p5 : lw_okq (⟨"WideStore", "newestAreOfOneTier", "()Z"⟩, 8) := ⟨⟨by decide +kernel, by decide +kernel⟩, List.mem_of_getElem? (i := 15) (by decide +kernel), List.mem_of_getElem? (i := 216) (by decide +kernel), List.mem_of_getElem? (i := 217) (by decide +kernel)⟩
theorem lw_p6 : lw_okq (⟨"WideStore", "mergeFrom", "(II)LWideStore$Table;"⟩, 8) := ⟨⟨by decide +kernel, by decide +kernel⟩, List.mem_of_getElem? (i := 15) (by decide +kernel), List.mem_of_getElem? (i := 234) (by decide +kernel), List.mem_of_getElem? (i := 235) (by decide +kernel)⟩
theorem lw_p7 : lw_okq (⟨"WideStore$Table", "dropEntry", "(LWideStore$Entry;)V"⟩, 4) := ⟨⟨by decide +kernel, by decide +kernel⟩, List.mem_of_getElem? (i := 57) (by decide +kernel), List.mem_of_getElem? (i := 259) (by decide +kernel), List.mem_of_getElem? (i := 260) (by decide +kernel)⟩
theorem lw_p8 : lw_okq (⟨"java/util/ArrayList", "fastRemove", "([Ljava/lang/Object;I)V"⟩, 3) := ⟨⟨by decide +kernel, by decide +kernel⟩, List.mem_of_getElem? (i := 31) (by decide +kernel), List.mem_of_getElem? (i := 271) (by decide +kernel), List.mem_of_getElem? (i := 272) (by decide +kernel)⟩
theorem lw_p9 : lw_okq (⟨"WideStore", "seenCell", "(II)LWideStore$Entry;"⟩, 8) := ⟨⟨by decide +kernel, by decide +kernel⟩, List.mem_of_getElem? (i := 15) (by decide +kernel), List.mem_of_getElem? (i := 289) (by decide +kernel), List.mem_of_getElem? (i := 290) (by decide +kernel)⟩
theorem lw_p10 : lw_okq (⟨"WideStore", "winningPoint", "(II)LWideStore$Entry;"⟩, 8) := ⟨⟨by decide +kernel, by decide +kernel⟩, List.mem_of_getElem? (i := 15) (by decide +kernel), List.mem_of_getElem? (i := 293) (by decide +kernel), List.mem_of_getElem? (i := 294) (by decide +kernel)⟩
theorem lw_p11 : lw_okq (⟨"WideStore", "isCovered", "(III)Z"⟩, 8) := ⟨⟨by decide +kernel, by decide +kernel⟩, List.mem_of_getElem? (i := 15) (by decide +kernel), List.mem_of_getElem? (i := 299) (by decide +kernel), List.mem_of_getElem? (i := 300) (by decide +kernel)⟩
theorem lw_p12 : lw_okq (⟨"WideStore", "greatestTier", "()I"⟩, 8) := ⟨⟨by decide +kernel, by decide +kernel⟩, List.mem_of_getElem? (i := 15) (by decide +kernel), List.mem_of_getElem? (i := 329) (by decide +kernel), List.mem_of_getElem? (i := 330) (by decide +kernel)⟩
theorem lw_p13 : lw_okq (⟨"WideStoreModel", "add", "(IIIIIII)Z"⟩, 16) := ⟨⟨by decide +kernel, by decide +kernel⟩, List.mem_of_getElem? (i := 360) (by decide +kernel), List.mem_of_getElem? (i := 426) (by decide +kernel), List.mem_of_getElem? (i := 427) (by decide +kernel)⟩
theorem lw_p14 : lw_okq (⟨"WideStoreModel", "remember", "(I)V"⟩, 16) := ⟨⟨by decide +kernel, by decide +kernel⟩, List.mem_of_getElem? (i := 360) (by decide +kernel), List.mem_of_getElem? (i := 430) (by decide +kernel), List.mem_of_getElem? (i := 431) (by decide +kernel)⟩
theorem lw_p15 : lw_okq (⟨"WideStoreModel", "flushAll", "()I"⟩, 16) := ⟨⟨by decide +kernel, by decide +kernel⟩, List.mem_of_getElem? (i := 360) (by decide +kernel), List.mem_of_getElem? (i := 446) (by decide +kernel), List.mem_of_getElem? (i := 447) (by decide +kernel)⟩
def lw_privs_1 : List (MethodName × Nat) := [(⟨"WideStore", "addEntry", "(LWideStore$Entry;)Z"⟩, 8), (⟨"WideStore", "flushMemory", "()V"⟩, 8), (⟨"java/util/ArrayList", "add", "(Ljava/lang/Object;[Ljava/lang/Object;I)V"⟩, 3), (⟨"java/util/ArrayList", "grow", "()[Ljava/lang/Object;"⟩, 3), (⟨"java/util/ArrayList", "grow", "(I)[Ljava/lang/Object;"⟩, 3), (⟨"WideStore", "newestAreOfOneTier", "()Z"⟩, 8), (⟨"WideStore", "mergeFrom", "(II)LWideStore$Table;"⟩, 8), (⟨"WideStore$Table", "dropEntry", "(LWideStore$Entry;)V"⟩, 4), (⟨"java/util/ArrayList", "fastRemove", "([Ljava/lang/Object;I)V"⟩, 3), (⟨"WideStore", "seenCell", "(II)LWideStore$Entry;"⟩, 8), (⟨"WideStore", "winningPoint", "(II)LWideStore$Entry;"⟩, 8), (⟨"WideStore", "isCovered", "(III)Z"⟩, 8), (⟨"WideStore", "greatestTier", "()I"⟩, 8), (⟨"WideStoreModel", "add", "(IIIIIII)Z"⟩, 16), (⟨"WideStoreModel", "remember", "(I)V"⟩, 16), (⟨"WideStoreModel", "flushAll", "()I"⟩, 16)]
theorem lw_r1 : ∀ q ∈ lw_privs_1, lw_okq q := List.forall_mem_cons.mpr ⟨lw_p0, List.forall_mem_cons.mpr ⟨lw_p1, List.forall_mem_cons.mpr ⟨lw_p2, List.forall_mem_cons.mpr ⟨lw_p3, List.forall_mem_cons.mpr ⟨lw_p4, List.forall_mem_cons.mpr ⟨lw_p5, List.forall_mem_cons.mpr ⟨lw_p6, List.forall_mem_cons.mpr ⟨lw_p7, List.forall_mem_cons.mpr ⟨lw_p8, List.forall_mem_cons.mpr ⟨lw_p9, List.forall_mem_cons.mpr ⟨lw_p10, List.forall_mem_cons.mpr ⟨lw_p11, List.forall_mem_cons.mpr ⟨lw_p12, List.forall_mem_cons.mpr ⟨lw_p13, List.forall_mem_cons.mpr ⟨lw_p14, List.forall_mem_cons.mpr ⟨lw_p15, fun _ h => absurd h List.not_mem_nil⟩⟩⟩⟩⟩⟩⟩⟩⟩⟩⟩⟩⟩⟩⟩⟩
theorem lw_p16 : lw_okq (⟨"WideStoreModel", "join", "(II)V"⟩, 16) := ⟨⟨by decide +kernel, by decide +kernel⟩, List.mem_of_getElem? (i := 360) (by decide +kernel), List.mem_of_getElem? (i := 450) (by decide +kernel), List.mem_of_getElem? (i := 451) (by decide +kernel)⟩
theorem lw_p17 : lw_okq (⟨"WideStoreModel", "seen", "(II)Z"⟩, 16) := ⟨⟨by decide +kernel, by decide +kernel⟩, List.mem_of_getElem? (i := 360) (by decide +kernel), List.mem_of_getElem? (i := 481) (by decide +kernel), List.mem_of_getElem? (i := 482) (by decide +kernel)⟩
theorem lw_p18 : lw_okq (⟨"WideStoreModel", "winner", "(II)I"⟩, 16) := ⟨⟨by decide +kernel, by decide +kernel⟩, List.mem_of_getElem? (i := 360) (by decide +kernel), List.mem_of_getElem? (i := 485) (by decide +kernel), List.mem_of_getElem? (i := 486) (by decide +kernel)⟩
def lw_privs_2 : List (MethodName × Nat) := [(⟨"WideStoreModel", "join", "(II)V"⟩, 16), (⟨"WideStoreModel", "seen", "(II)Z"⟩, 16), (⟨"WideStoreModel", "winner", "(II)I"⟩, 16)]
theorem lw_r2 : ∀ q ∈ lw_privs_2, lw_okq q := List.forall_mem_cons.mpr ⟨lw_p16, List.forall_mem_cons.mpr ⟨lw_p17, List.forall_mem_cons.mpr ⟨lw_p18, fun _ h => absurd h List.not_mem_nil⟩⟩⟩
def lw_privs : List (MethodName × Nat) := lw_privs_1 ++ (lw_privs_2)
def lw_tbl : List Cond := k2_sels lw_privs ++ tables_1
theorem lw_privs_ok : ∀ q ∈ lw_privs, lw_okq q := by
  show ∀ q ∈ lw_privs_1 ++ (lw_privs_2), lw_okq q
  exact List.forall_mem_append.mpr ⟨lw_r1, lw_r2⟩
def RXS : String := "WideStore"
def RXE : String := "WideStore$Entry"
def RXT : String := "WideStore$Table"
def RXM : String := "WideStoreModel"
def RXA : String := "java/util/ArrayList"
def RXO : String := "java/util/Objects"
def RXP : String := "jdk/internal/util/Preconditions"
def RXU : String := "jdk/internal/util/ArraysSupport"
def RXY : String := "java/util/Arrays"
def RXB : String := "java/util/AbstractList"
def RXC : String := "java/util/AbstractCollection"
def RXL : String := "WideStoreLaw"
def RL : String := "WideStoreLaw"
def TXE : u_T := fun k => match k with
  | 0 => ("WideStore$Entry", "kind", "I", true)
  | 1 => ("WideStore$Entry", "slot", "I", true)
  | 2 => ("WideStore$Entry", "stamp", "I", true)
  | 3 => ("WideStore$Entry", "value", "I", true)
  | _ => ("WideStore$Entry", "time", "I", true)
def tyXE : Nat → FieldType := fun k => match k with
  | 0 => .int
  | 1 => .int
  | 2 => .int
  | 3 => .int
  | _ => .int
theorem nmXE : ∀ a, a < 5 → ∀ b, b < 5 → a ≠ b → (TXE a).2.1 ≠ (TXE b).2.1 := by decide +kernel
theorem tyXE_ok : ∀ k, k < 5 → parseFieldDescriptor (TXE k).2.2.1 = some (tyXE k) := by decide +kernel
def TXT : u_T := fun k => match k with
  | 0 => ("WideStore$Table", "tier", "I", true)
  | 1 => ("WideStore$Table", "slots", "[LWideStore$Entry;", true)
  | 2 => ("WideStore$Table", "size", "I", false)
  | _ => ("WideStore$Table", "wipes", "I", false)
def tyXT : Nat → FieldType := fun k => match k with
  | 0 => .int
  | 1 => .array (.object "WideStore$Entry")
  | 2 => .int
  | _ => .int
theorem nmXT : ∀ a, a < 4 → ∀ b, b < 4 → a ≠ b → (TXT a).2.1 ≠ (TXT b).2.1 := by decide +kernel
theorem tyXT_ok : ∀ k, k < 4 → parseFieldDescriptor (TXT k).2.2.1 = some (tyXT k) := by decide +kernel
def TXS : u_T := fun k => match k with
  | 0 => ("WideStore", "cap", "I", true)
  | 1 => ("WideStore", "grace", "I", true)
  | 2 => ("WideStore", "log", "[LWideStore$Entry;", true)
  | 3 => ("WideStore", "runs", "Ljava/util/ArrayList;", true)
  | 4 => ("WideStore", "memory", "LWideStore$Table;", false)
  | 5 => ("WideStore", "logSize", "I", false)
  | 6 => ("WideStore", "safeSize", "I", false)
  | _ => ("WideStore", "now", "I", false)
def tyXS : Nat → FieldType := fun k => match k with
  | 0 => .int
  | 1 => .int
  | 2 => .array (.object "WideStore$Entry")
  | 3 => .object "java/util/ArrayList"
  | 4 => .object "WideStore$Table"
  | 5 => .int
  | 6 => .int
  | _ => .int
theorem nmXS : ∀ a, a < 8 → ∀ b, b < 8 → a ≠ b → (TXS a).2.1 ≠ (TXS b).2.1 := by decide +kernel
theorem tyXS_ok : ∀ k, k < 8 → parseFieldDescriptor (TXS k).2.2.1 = some (tyXS k) := by decide +kernel
def TXM : u_T := fun k => match k with
  | 0 => ("WideStoreModel", "cap", "I", true)
  | 1 => ("WideStoreModel", "grace", "I", true)
  | 2 => ("WideStoreModel", "now", "I", false)
  | 3 => ("WideStoreModel", "memories", "I", false)
  | 4 => ("WideStoreModel", "memory", "[I", true)
  | 5 => ("WideStoreModel", "logs", "I", false)
  | 6 => ("WideStoreModel", "safe", "I", false)
  | 7 => ("WideStoreModel", "log", "[I", true)
  | 8 => ("WideStoreModel", "flushed", "I", false)
  | 9 => ("WideStoreModel", "entry", "[I", true)
  | 10 => ("WideStoreModel", "runOf", "[I", true)
  | 11 => ("WideStoreModel", "runs", "I", false)
  | 12 => ("WideStoreModel", "marks", "I", false)
  | 13 => ("WideStoreModel", "mark", "[I", true)
  | 14 => ("WideStoreModel", "tier", "[I", true)
  | _ => ("WideStoreModel", "cell", "[I", true)
def tyXM : Nat → FieldType := fun k => match k with
  | 0 => .int
  | 1 => .int
  | 2 => .int
  | 3 => .int
  | 4 => .array .int
  | 5 => .int
  | 6 => .int
  | 7 => .array .int
  | 8 => .int
  | 9 => .array .int
  | 10 => .array .int
  | 11 => .int
  | 12 => .int
  | 13 => .array .int
  | 14 => .array .int
  | _ => .array .int
theorem nmXM : ∀ a, a < 16 → ∀ b, b < 16 → a ≠ b → (TXM a).2.1 ≠ (TXM b).2.1 := by decide +kernel
theorem tyXM_ok : ∀ k, k < 16 → parseFieldDescriptor (TXM k).2.2.1 = some (tyXM k) := by decide +kernel
def TXA : u_T := fun k => match k with
  | 0 => ("java/util/AbstractList", "modCount", "I", false)
  | 1 => ("java/util/ArrayList", "elementData", "[Ljava/lang/Object;", false)
  | _ => ("java/util/ArrayList", "size", "I", false)
def tyXA : Nat → FieldType := fun k => match k with
  | 0 => .int
  | 1 => .array (.object "java/lang/Object")
  | _ => .int
theorem nmXA : ∀ a, a < 3 → ∀ b, b < 3 → a ≠ b → (TXA a).2.1 ≠ (TXA b).2.1 := by decide +kernel
theorem tyXA_ok : ∀ k, k < 3 → parseFieldDescriptor (TXA k).2.2.1 = some (tyXA k) := by decide +kernel
abbrev vwCl : List vw_C := [(RXE, TXE, 5), (RXT, TXT, 4), (RXS, TXS, 8), (RXM, TXM, 16), (RXA, TXA, 3)]
abbrev ci_E : Nat := 0
abbrev ci_T : Nat := 1
abbrev ci_S : Nat := 2
abbrev ci_M : Nat := 3
abbrev ci_A : Nat := 4
abbrev cXS_init : ByteArray := prog_1_method_1_code
def yXS_init : MethodName := ⟨RXS, "<init>", "(II)V"⟩
abbrev cXA_init : ByteArray := prog_13_method_2_code
def yXA_init : MethodName := ⟨RXA, "<init>", "()V"⟩
abbrev cXB_init : ByteArray := prog_12_method_1_code
def yXB_init : MethodName := ⟨RXB, "<init>", "()V"⟩
abbrev cXC_init : ByteArray := prog_11_method_1_code
def yXC_init : MethodName := ⟨RXC, "<init>", "()V"⟩
abbrev cXT_init : ByteArray := prog_3_method_1_code
def yXT_init : MethodName := ⟨RXT, "<init>", "(I)V"⟩
abbrev cXS_put : ByteArray := prog_1_method_2_code
def yXS_put : MethodName := ⟨RXS, "put", "(IIIII)Z"⟩
abbrev cXS_isPlace : ByteArray := prog_1_method_16_code
def yXS_isPlace : MethodName := ⟨RXS, "isPlace", "(II)Z"⟩
abbrev cXS_isStamp : ByteArray := prog_1_method_17_code
def yXS_isStamp : MethodName := ⟨RXS, "isStamp", "(I)Z"⟩
abbrev cXS_pointSlot : ByteArray := prog_1_method_18_code
def yXS_pointSlot : MethodName := ⟨RXS, "pointSlot", "(II)I"⟩
abbrev cXE_init : ByteArray := prog_2_method_1_code
def yXE_init : MethodName := ⟨RXE, "<init>", "(IIIII)V"⟩
abbrev cXS_addEntry : ByteArray := prog_1_method_20_code
def yXS_addEntry : MethodName := ⟨RXS, "addEntry", "(LWideStore$Entry;)Z"⟩
abbrev cXT_addWinner : ByteArray := prog_3_method_3_code
def yXT_addWinner : MethodName := ⟨RXT, "addWinner", "(LWideStore$Entry;)V"⟩
abbrev cXE_winsOver : ByteArray := prog_2_method_2_code
def yXE_winsOver : MethodName := ⟨RXE, "winsOver", "(LWideStore$Entry;)Z"⟩
abbrev cXS_flushMemory : ByteArray := prog_1_method_21_code
def yXS_flushMemory : MethodName := ⟨RXS, "flushMemory", "()V"⟩
abbrev cXA_add : ByteArray := prog_13_method_25_code
def yXA_add : MethodName := ⟨RXA, "add", "(Ljava/lang/Object;)Z"⟩
abbrev cXA_addp : ByteArray := prog_13_method_24_code
def yXA_addp : MethodName := ⟨RXA, "add", "(Ljava/lang/Object;[Ljava/lang/Object;I)V"⟩
abbrev cXA_grow0 : ByteArray := prog_13_method_7_code
def yXA_grow0 : MethodName := ⟨RXA, "grow", "()[Ljava/lang/Object;"⟩
abbrev cXA_grow1 : ByteArray := prog_13_method_6_code
def yXA_grow1 : MethodName := ⟨RXA, "grow", "(I)[Ljava/lang/Object;"⟩
abbrev cXU_newLength : ByteArray := prog_20_method_27_code
def yXU_newLength : MethodName := ⟨RXU, "newLength", "(III)I"⟩
abbrev cXU_hugeLength : ByteArray := prog_20_method_28_code
def yXU_hugeLength : MethodName := ⟨RXU, "hugeLength", "(II)I"⟩
abbrev cXY_copyOf2 : ByteArray := prog_14_method_119_code
def yXY_copyOf2 : MethodName := ⟨RXY, "copyOf", "([Ljava/lang/Object;I)[Ljava/lang/Object;"⟩
abbrev cXY_copyOf3 : ByteArray := prog_14_method_120_code
def yXY_copyOf3 : MethodName := ⟨RXY, "copyOf", "([Ljava/lang/Object;ILjava/lang/Class;)[Ljava/lang/Object;"⟩
abbrev cXA_size : ByteArray := prog_13_method_8_code
def yXA_size : MethodName := ⟨RXA, "size", "()I"⟩
abbrev cXS_newestAreOfOneTier : ByteArray := prog_1_method_22_code
def yXS_newestAreOfOneTier : MethodName := ⟨RXS, "newestAreOfOneTier", "()Z"⟩
abbrev cXA_get : ByteArray := prog_13_method_20_code
def yXA_get : MethodName := ⟨RXA, "get", "(I)Ljava/lang/Object;"⟩
abbrev cXO_checkIndex : ByteArray := prog_17_method_17_code
def yXO_checkIndex : MethodName := ⟨RXO, "checkIndex", "(II)I"⟩
abbrev cXP_checkIndex : ByteArray := prog_21_method_11_code
def yXP_checkIndex : MethodName := ⟨RXP, "checkIndex", "(IILjava/util/function/BiFunction;)I"⟩
abbrev cXA_elementData : ByteArray := prog_13_method_18_code
def yXA_elementData : MethodName := ⟨RXA, "elementData", "(I)Ljava/lang/Object;"⟩
abbrev cXS_mergeFrom : ByteArray := prog_1_method_24_code
def yXS_mergeFrom : MethodName := ⟨RXS, "mergeFrom", "(II)LWideStore$Table;"⟩
abbrev cXT_addWinners : ByteArray := prog_3_method_4_code
def yXT_addWinners : MethodName := ⟨RXT, "addWinners", "(LWideStore$Table;)V"⟩
abbrev cXT_dropCovered : ByteArray := prog_3_method_6_code
def yXT_dropCovered : MethodName := ⟨RXT, "dropCovered", "()V"⟩
abbrev cXT_pointAt : ByteArray := prog_3_method_2_code
def yXT_pointAt : MethodName := ⟨RXT, "pointAt", "(II)LWideStore$Entry;"⟩
abbrev cXT_covers : ByteArray := prog_3_method_5_code
def yXT_covers : MethodName := ⟨RXT, "covers", "(III)Z"⟩
abbrev cXS_wipeSlot : ByteArray := prog_1_method_19_code
def yXS_wipeSlot : MethodName := ⟨RXS, "wipeSlot", "(III)I"⟩
abbrev cXT_dropEntry : ByteArray := prog_3_method_9_code
def yXT_dropEntry : MethodName := ⟨RXT, "dropEntry", "(LWideStore$Entry;)V"⟩
abbrev cXT_dropOld : ByteArray := prog_3_method_7_code
def yXT_dropOld : MethodName := ⟨RXT, "dropOld", "(II)V"⟩
abbrev cXA_remove : ByteArray := prog_13_method_29_code
def yXA_remove : MethodName := ⟨RXA, "remove", "(I)Ljava/lang/Object;"⟩
abbrev cXA_fastRemove : ByteArray := prog_13_method_39_code
def yXA_fastRemove : MethodName := ⟨RXA, "fastRemove", "([Ljava/lang/Object;I)V"⟩
abbrev cXS_delete : ByteArray := prog_1_method_3_code
def yXS_delete : MethodName := ⟨RXS, "delete", "(III)Z"⟩
abbrev cXS_wipe : ByteArray := prog_1_method_4_code
def yXS_wipe : MethodName := ⟨RXS, "wipe", "(IIII)Z"⟩
abbrev cXS_get : ByteArray := prog_1_method_5_code
def yXS_get : MethodName := ⟨RXS, "get", "(II)I"⟩
abbrev cXS_seenCell : ByteArray := prog_1_method_25_code
def yXS_seenCell : MethodName := ⟨RXS, "seenCell", "(II)LWideStore$Entry;"⟩
abbrev cXS_winningPoint : ByteArray := prog_1_method_26_code
def yXS_winningPoint : MethodName := ⟨RXS, "winningPoint", "(II)LWideStore$Entry;"⟩
abbrev cXS_isCovered : ByteArray := prog_1_method_27_code
def yXS_isCovered : MethodName := ⟨RXS, "isCovered", "(III)Z"⟩
abbrev cXS_stamp : ByteArray := prog_1_method_6_code
def yXS_stamp : MethodName := ⟨RXS, "stamp", "(II)I"⟩
abbrev cXS_next : ByteArray := prog_1_method_7_code
def yXS_next : MethodName := ⟨RXS, "next", "(II)I"⟩
abbrev cXS_nextRow : ByteArray := prog_1_method_8_code
def yXS_nextRow : MethodName := ⟨RXS, "nextRow", "(I)I"⟩
abbrev cXS_flush : ByteArray := prog_1_method_9_code
def yXS_flush : MethodName := ⟨RXS, "flush", "()I"⟩
abbrev cXS_merge : ByteArray := prog_1_method_10_code
def yXS_merge : MethodName := ⟨RXS, "merge", "()I"⟩
abbrev cXA_isEmpty : ByteArray := prog_13_method_9_code
def yXA_isEmpty : MethodName := ⟨RXA, "isEmpty", "()Z"⟩
abbrev cXS_greatestTier : ByteArray := prog_1_method_23_code
def yXS_greatestTier : MethodName := ⟨RXS, "greatestTier", "()I"⟩
abbrev cXS_sync : ByteArray := prog_1_method_11_code
def yXS_sync : MethodName := ⟨RXS, "sync", "()I"⟩
abbrev cXS_crash : ByteArray := prog_1_method_12_code
def yXS_crash : MethodName := ⟨RXS, "crash", "()I"⟩
abbrev cXT_clearSlots : ByteArray := prog_3_method_8_code
def yXT_clearSlots : MethodName := ⟨RXT, "clearSlots", "()V"⟩
abbrev cXS_tick : ByteArray := prog_1_method_13_code
def yXS_tick : MethodName := ⟨RXS, "tick", "(I)I"⟩
abbrev cXS_count : ByteArray := prog_1_method_14_code
def yXS_count : MethodName := ⟨RXS, "count", "(I)I"⟩
abbrev cXS_run : ByteArray := prog_1_method_15_code
def yXS_run : MethodName := ⟨RXS, "run", "(II)I"⟩
abbrev cXL_cell : ByteArray := method_2_code
def yXL_cell : MethodName := ⟨RXL, "cell", "([II)I"⟩
abbrev cXM_init : ByteArray := prog_5_method_1_code
def yXM_init : MethodName := ⟨RXM, "<init>", "(II)V"⟩
abbrev cXM_put : ByteArray := prog_5_method_11_code
def yXM_put : MethodName := ⟨RXM, "put", "(IIIII)Z"⟩
abbrev cXM_isPlace : ByteArray := prog_5_method_9_code
def yXM_isPlace : MethodName := ⟨RXM, "isPlace", "(II)Z"⟩
abbrev cXM_isStamp : ByteArray := prog_5_method_10_code
def yXM_isStamp : MethodName := ⟨RXM, "isStamp", "(I)Z"⟩
abbrev cXM_add : ByteArray := prog_5_method_8_code
def yXM_add : MethodName := ⟨RXM, "add", "(IIIIIII)Z"⟩
abbrev cXM_remember : ByteArray := prog_5_method_7_code
def yXM_remember : MethodName := ⟨RXM, "remember", "(I)V"⟩
abbrev cXM_alike : ByteArray := prog_5_method_3_code
def yXM_alike : MethodName := ⟨RXM, "alike", "([II[II)Z"⟩
abbrev cXM_point : ByteArray := prog_5_method_2_code
def yXM_point : MethodName := ⟨RXM, "point", "([II)Z"⟩
abbrev cXM_wins : ByteArray := prog_5_method_4_code
def yXM_wins : MethodName := ⟨RXM, "wins", "([II[II)Z"⟩
abbrev cXM_copy : ByteArray := prog_5_method_6_code
def yXM_copy : MethodName := ⟨RXM, "copy", "([II[II)V"⟩
abbrev cXM_flushAll : ByteArray := prog_5_method_14_code
def yXM_flushAll : MethodName := ⟨RXM, "flushAll", "()I"⟩
abbrev cXM_join : ByteArray := prog_5_method_16_code
def yXM_join : MethodName := ⟨RXM, "join", "(II)V"⟩
abbrev cXM_covers : ByteArray := prog_5_method_5_code
def yXM_covers : MethodName := ⟨RXM, "covers", "([IIIII)Z"⟩
abbrev cXM_delete : ByteArray := prog_5_method_12_code
def yXM_delete : MethodName := ⟨RXM, "delete", "(III)Z"⟩
abbrev cXM_wipe : ByteArray := prog_5_method_13_code
def yXM_wipe : MethodName := ⟨RXM, "wipe", "(IIII)Z"⟩
abbrev cXM_flush : ByteArray := prog_5_method_15_code
def yXM_flush : MethodName := ⟨RXM, "flush", "()I"⟩
abbrev cXM_merge : ByteArray := prog_5_method_17_code
def yXM_merge : MethodName := ⟨RXM, "merge", "()I"⟩
abbrev cXM_run : ByteArray := prog_5_method_28_code
def yXM_run : MethodName := ⟨RXM, "run", "(II)I"⟩
abbrev cXM_get : ByteArray := prog_5_method_20_code
def yXM_get : MethodName := ⟨RXM, "get", "(II)I"⟩
abbrev cXM_seen : ByteArray := prog_5_method_19_code
def yXM_seen : MethodName := ⟨RXM, "seen", "(II)Z"⟩
abbrev cXM_winner : ByteArray := prog_5_method_18_code
def yXM_winner : MethodName := ⟨RXM, "winner", "(II)I"⟩
abbrev cXM_stamp : ByteArray := prog_5_method_21_code
def yXM_stamp : MethodName := ⟨RXM, "stamp", "(II)I"⟩
abbrev cXM_next : ByteArray := prog_5_method_22_code
def yXM_next : MethodName := ⟨RXM, "next", "(II)I"⟩
abbrev cXM_nextRow : ByteArray := prog_5_method_23_code
def yXM_nextRow : MethodName := ⟨RXM, "nextRow", "(I)I"⟩
abbrev cXM_sync : ByteArray := prog_5_method_24_code
def yXM_sync : MethodName := ⟨RXM, "sync", "()I"⟩
abbrev cXM_crash : ByteArray := prog_5_method_25_code
def yXM_crash : MethodName := ⟨RXM, "crash", "()I"⟩
abbrev cXM_tick : ByteArray := prog_5_method_26_code
def yXM_tick : MethodName := ⟨RXM, "tick", "(I)I"⟩
abbrev cXM_count : ByteArray := prog_5_method_27_code
def yXM_count : MethodName := ⟨RXM, "count", "(I)I"⟩
abbrev cXL_law : ByteArray := code
def yXL_law : MethodName := ⟨RXL, "law", "([I)Z"⟩
def AL_0 : List Cond := [.selects yXS_addEntry.cls yXS_addEntry yXS_addEntry, .selects yXS_flushMemory.cls yXS_flushMemory yXS_flushMemory, .selects yXA_addp.cls yXA_addp yXA_addp, .selects yXA_grow0.cls yXA_grow0 yXA_grow0, .selects yXA_grow1.cls yXA_grow1 yXA_grow1, .selects yXS_newestAreOfOneTier.cls yXS_newestAreOfOneTier yXS_newestAreOfOneTier, .selects yXS_mergeFrom.cls yXS_mergeFrom yXS_mergeFrom, .selects yXT_dropEntry.cls yXT_dropEntry yXT_dropEntry, .selects yXA_fastRemove.cls yXA_fastRemove yXA_fastRemove, .selects yXS_seenCell.cls yXS_seenCell yXS_seenCell, .selects yXS_winningPoint.cls yXS_winningPoint yXS_winningPoint, .selects yXS_isCovered.cls yXS_isCovered yXS_isCovered, .selects yXS_greatestTier.cls yXS_greatestTier yXS_greatestTier, .selects yXM_add.cls yXM_add yXM_add, .selects yXM_remember.cls yXM_remember yXM_remember, .selects yXM_flushAll.cls yXM_flushAll yXM_flushAll, .selects yXM_join.cls yXM_join yXM_join, .selects yXM_seen.cls yXM_seen yXM_seen, .selects yXM_winner.cls yXM_winner yXM_winner, .initialized "WideStoreLaw", .initialized "WideStore", .initialized "java/lang/Math", .initialized "java/util/AbstractCollection", .initialized "java/util/AbstractList", .initialized "java/util/ArrayList", .initialized "WideStore$Table", .initialized "WideStoreModel", .initialized "WideStore$Entry", .initialized "jdk/internal/util/ArraysSupport", .initialized "java/util/Arrays", .initialized "java/lang/System", .initialized "java/util/Objects", .initialized "jdk/internal/util/Preconditions", .classLink "WideStoreLaw" 7 "WideStore", .instantiable "WideStore" 8, .methodLink "WideStoreLaw" 15 yXS_init, .instanceMethod yXS_init, .code yXS_init cXS_init 3 none, .methodLink "WideStore" 3 objectInit, .instanceMethod objectInit]
def AL_1 : List Cond := [.code objectInit ⟨#[0xb1]⟩ 1 none, .methodLink "WideStore" 9 Lib.Math.min.name, .static Lib.Math.min.name, .code Lib.Math.min.name Lib.Math.min.code 2 (some .int), .methodLink "WideStore" 15 Lib.Math.max.name, .static Lib.Math.max.name, .code Lib.Math.max.name Lib.Math.max.code 2 (some .int), .classLink "WideStore" 25 "WideStore$Entry", .classLink "WideStore" 31 "java/util/ArrayList", .instantiable "java/util/ArrayList" 3, .methodLink "WideStore" 33 yXA_init, .instanceMethod yXA_init, .code yXA_init cXA_init 1 none, .methodLink "java/util/ArrayList" 1 yXB_init, .instanceMethod yXB_init, .code yXB_init cXB_init 1 none, .methodLink "java/util/AbstractList" 1 yXC_init, .instanceMethod yXC_init, .code yXC_init cXC_init 1 none, .methodLink "java/util/AbstractCollection" 1 objectInit, .fieldLink "java/util/ArrayList" 39 "java/util/ArrayList" "DEFAULTCAPACITY_EMPTY_ELEMENTDATA" "[Ljava/lang/Object;", .fieldLink "java/util/ArrayList" 9 "java/util/ArrayList" "elementData" "[Ljava/lang/Object;", .fieldLink "java/util/ArrayList" 48 "java/util/ArrayList" "size" "I", .fieldLink "java/util/AbstractList" 7 "java/util/AbstractList" "modCount" "I", .fieldLink "java/util/ArrayList" 63 "java/util/ArrayList" "modCount" "I", .sameField "java/util/ArrayList" "java/util/AbstractList" "modCount" "I", .lays "java/util/ArrayList" "java/util/ArrayList" "elementData" "[Ljava/lang/Object;", .lays "java/util/ArrayList" "java/util/ArrayList" "size" "I", .lays "java/util/ArrayList" "java/util/AbstractList" "modCount" "I", .classLink "WideStore" 38 "WideStore$Table", .instantiable "WideStore$Table" 4, .methodLink "WideStore" 40 yXT_init, .instanceMethod yXT_init, .code yXT_init cXT_init 2 none, .methodLink "WideStore$Table" 3 objectInit, .classLink "WideStore$Table" 15 "WideStore$Entry", .fieldLink "WideStore$Table" 9 "WideStore$Table" "tier" "I", .fieldLink "WideStore" 123 "WideStore$Table" "tier" "I", .fieldLink "WideStore$Table" 17 "WideStore$Table" "slots" "[LWideStore$Entry;", .fieldLink "WideStore$Table" 21 "WideStore$Table" "size" "I"]
def AL_2 : List Cond := [.fieldLink "WideStore" 92 "WideStore$Table" "size" "I", .fieldLink "WideStore$Table" 24 "WideStore$Table" "wipes" "I", .fieldLink "WideStore" 126 "WideStore$Table" "wipes" "I", .laysFinal "WideStore$Table" "WideStore$Table" "tier" "I", .laysFinal "WideStore$Table" "WideStore$Table" "slots" "[LWideStore$Entry;", .lays "WideStore$Table" "WideStore$Table" "size" "I", .lays "WideStore$Table" "WideStore$Table" "wipes" "I", .fieldLink "WideStore" 18 "WideStore" "cap" "I", .fieldLink "WideStore" 22 "WideStore" "grace" "I", .fieldLink "WideStore" 27 "WideStore" "log" "[LWideStore$Entry;", .fieldLink "WideStore" 34 "WideStore" "runs" "Ljava/util/ArrayList;", .fieldLink "WideStore" 43 "WideStore" "memory" "LWideStore$Table;", .fieldLink "WideStore" 47 "WideStore" "logSize" "I", .fieldLink "WideStore" 50 "WideStore" "safeSize" "I", .fieldLink "WideStore" 53 "WideStore" "now" "I", .laysFinal "WideStore" "WideStore" "cap" "I", .laysFinal "WideStore" "WideStore" "grace" "I", .laysFinal "WideStore" "WideStore" "log" "[LWideStore$Entry;", .laysFinal "WideStore" "WideStore" "runs" "Ljava/util/ArrayList;", .lays "WideStore" "WideStore" "memory" "LWideStore$Table;", .lays "WideStore" "WideStore" "logSize" "I", .lays "WideStore" "WideStore" "safeSize" "I", .lays "WideStore" "WideStore" "now" "I", .methodLink "WideStoreLaw" 21 yXS_put, .instanceMethod yXS_put, .selects "WideStore" yXS_put yXS_put, .code yXS_put cXS_put 7 (some .boolean), .methodLink "WideStore" 56 yXS_isPlace, .static yXS_isPlace, .code yXS_isPlace cXS_isPlace 2 (some .boolean), .methodLink "WideStore" 60 yXS_isStamp, .static yXS_isStamp, .code yXS_isStamp cXS_isStamp 1 (some .boolean), .constant "WideStore" 64 2147483647, .instantiable "WideStore$Entry" 5, .methodLink "WideStore" 65 yXS_pointSlot, .static yXS_pointSlot, .code yXS_pointSlot cXS_pointSlot 2 (some .int), .methodLink "WideStore" 68 yXE_init, .instanceMethod yXE_init]
def AL_3 : List Cond := [.code yXE_init cXE_init 6 none, .methodLink "WideStore$Entry" 1 objectInit, .fieldLink "WideStore$Entry" 7 "WideStore$Entry" "kind" "I", .fieldLink "WideStore$Table" 34 "WideStore$Entry" "kind" "I", .fieldLink "WideStore" 153 "WideStore$Entry" "kind" "I", .fieldLink "WideStore$Entry" 13 "WideStore$Entry" "slot" "I", .fieldLink "WideStore$Table" 31 "WideStore$Entry" "slot" "I", .fieldLink "WideStore$Entry" 16 "WideStore$Entry" "stamp" "I", .fieldLink "WideStore$Table" 49 "WideStore$Entry" "stamp" "I", .fieldLink "WideStore" 86 "WideStore$Entry" "stamp" "I", .fieldLink "WideStore$Entry" 19 "WideStore$Entry" "value" "I", .fieldLink "WideStore" 83 "WideStore$Entry" "value" "I", .fieldLink "WideStore$Entry" 22 "WideStore$Entry" "time" "I", .fieldLink "WideStore$Table" 63 "WideStore$Entry" "time" "I", .fieldLink "WideStore" 156 "WideStore$Entry" "time" "I", .laysFinal "WideStore$Entry" "WideStore$Entry" "kind" "I", .laysFinal "WideStore$Entry" "WideStore$Entry" "slot" "I", .laysFinal "WideStore$Entry" "WideStore$Entry" "stamp" "I", .laysFinal "WideStore$Entry" "WideStore$Entry" "value" "I", .laysFinal "WideStore$Entry" "WideStore$Entry" "time" "I", .methodLink "WideStore" 71 yXS_addEntry, .instanceMethod yXS_addEntry, .code yXS_addEntry cXS_addEntry 2 (some .boolean), .methodLink "WideStore" 113 yXT_addWinner, .instanceMethod yXT_addWinner, .selects "WideStore$Table" yXT_addWinner yXT_addWinner, .code yXT_addWinner cXT_addWinner 3 none, .methodLink "WideStore$Table" 37 yXE_winsOver, .instanceMethod yXE_winsOver, .selects "WideStore$Entry" yXE_winsOver yXE_winsOver, .code yXE_winsOver cXE_winsOver 2 (some .boolean), .methodLink "WideStore" 95 yXS_flushMemory, .instanceMethod yXS_flushMemory, .code yXS_flushMemory cXS_flushMemory 3 none, .methodLink "WideStore" 129 yXA_add, .instanceMethod yXA_add, .selects "java/util/ArrayList" yXA_add yXA_add, .code yXA_add cXA_add 2 (some .boolean), .methodLink "java/util/ArrayList" 131 yXA_addp, .instanceMethod yXA_addp]
def AL_4 : List Cond := [.code yXA_addp cXA_addp 4 none, .methodLink "java/util/ArrayList" 129 yXA_grow0, .instanceMethod yXA_grow0, .code yXA_grow0 cXA_grow0 1 (some (.array (.object "java/lang/Object"))), .methodLink "java/util/ArrayList" 69 yXA_grow1, .instanceMethod yXA_grow1, .code yXA_grow1 cXA_grow1 4 (some (.array (.object "java/lang/Object"))), .methodLink "java/util/ArrayList" 73 yXU_newLength, .static yXU_newLength, .code yXU_newLength cXU_newLength 4 (some .int), .methodLink "jdk/internal/util/ArraysSupport" 194 Lib.Math.max.name, .constant "jdk/internal/util/ArraysSupport" 200 2147483639, .methodLink "jdk/internal/util/ArraysSupport" 201 yXU_hugeLength, .static yXU_hugeLength, .code yXU_hugeLength cXU_hugeLength 3 (some .int), .methodLink "java/util/ArrayList" 66 yXY_copyOf2, .static yXY_copyOf2, .code yXY_copyOf2 cXY_copyOf2 2 (some (.array (.object "java/lang/Object"))), .methodLink "java/util/Arrays" 86 ⟨"java/lang/Object", "getClass", "()Ljava/lang/Class;"⟩, .instanceMethod ⟨"java/lang/Object", "getClass", "()Ljava/lang/Class;"⟩, .selects "WideStore" ⟨"java/lang/Object", "getClass", "()Ljava/lang/Class;"⟩ ⟨"java/lang/Object", "getClass", "()Ljava/lang/Class;"⟩, .selects "WideStore$Entry" ⟨"java/lang/Object", "getClass", "()Ljava/lang/Class;"⟩ ⟨"java/lang/Object", "getClass", "()Ljava/lang/Class;"⟩, .selects "WideStore$Table" ⟨"java/lang/Object", "getClass", "()Ljava/lang/Class;"⟩ ⟨"java/lang/Object", "getClass", "()Ljava/lang/Class;"⟩, .selects "WideStoreModel" ⟨"java/lang/Object", "getClass", "()Ljava/lang/Class;"⟩ ⟨"java/lang/Object", "getClass", "()Ljava/lang/Class;"⟩, .selects "java/util/ArrayList" ⟨"java/lang/Object", "getClass", "()Ljava/lang/Class;"⟩ ⟨"java/lang/Object", "getClass", "()Ljava/lang/Class;"⟩, .native ⟨"java/lang/Object", "getClass", "()Ljava/lang/Class;"⟩, .methodLink "java/util/Arrays" 300 yXY_copyOf3, .static yXY_copyOf3, .code yXY_copyOf3 cXY_copyOf3 4 (some (.array (.object "java/lang/Object"))), .classLink "java/util/Arrays" 110 "[Ljava/lang/Object;", .classLink "java/util/Arrays" 2 "java/lang/Object", .methodLink "java/util/Arrays" 304 Lib.Math.min.name, .methodLink "java/util/Arrays" 150 arraycopyName, .static arraycopyName, .native arraycopyName, .methodLink "java/util/ArrayList" 79 Lib.Math.max.name, .classLink "java/util/ArrayList" 7 "java/lang/Object", .methodLink "WideStore" 117 yXA_size, .instanceMethod yXA_size, .selects "java/util/ArrayList" yXA_size yXA_size]
def AL_5 : List Cond := [.code yXA_size cXA_size 1 (some .int), .methodLink "WideStore" 133 yXS_newestAreOfOneTier, .instanceMethod yXS_newestAreOfOneTier, .code yXS_newestAreOfOneTier cXS_newestAreOfOneTier 4 (some .boolean), .methodLink "WideStore" 119 yXA_get, .instanceMethod yXA_get, .selects "java/util/ArrayList" yXA_get yXA_get, .code yXA_get cXA_get 2 (some (.object "java/lang/Object")), .methodLink "java/util/ArrayList" 118 yXO_checkIndex, .static yXO_checkIndex, .code yXO_checkIndex cXO_checkIndex 2 (some .int), .methodLink "java/util/Objects" 105 yXP_checkIndex, .static yXP_checkIndex, .code yXP_checkIndex cXP_checkIndex 3 (some .int), .methodLink "java/util/ArrayList" 123 yXA_elementData, .instanceMethod yXA_elementData, .selects "java/util/ArrayList" yXA_elementData yXA_elementData, .code yXA_elementData cXA_elementData 2 (some (.object "java/lang/Object")), .methodLink "WideStore" 106 yXS_mergeFrom, .instanceMethod yXS_mergeFrom, .code yXS_mergeFrom cXS_mergeFrom 5 (some (.object "WideStore$Table")), .methodLink "WideStore" 136 yXT_addWinners, .instanceMethod yXT_addWinners, .selects "WideStore$Table" yXT_addWinners yXT_addWinners, .code yXT_addWinners cXT_addWinners 3 none, .methodLink "WideStore$Table" 41 yXT_addWinner, .methodLink "WideStore" 140 yXT_dropCovered, .instanceMethod yXT_dropCovered, .selects "WideStore$Table" yXT_dropCovered yXT_dropCovered, .code yXT_dropCovered cXT_dropCovered 4 none, .methodLink "WideStore$Table" 52 yXT_pointAt, .instanceMethod yXT_pointAt, .selects "WideStore$Table" yXT_pointAt yXT_pointAt, .code yXT_pointAt cXT_pointAt 3 (some (.object "WideStore$Entry")), .methodLink "WideStore$Table" 56 yXT_covers, .instanceMethod yXT_covers, .selects "WideStore$Table" yXT_covers yXT_covers, .code yXT_covers cXT_covers 7 (some .boolean), .static yXS_wipeSlot, .code yXS_wipeSlot cXS_wipeSlot 3 (some .int)]
def AL_6 : List Cond := [.methodLink "WideStore$Table" 60 yXT_dropEntry, .instanceMethod yXT_dropEntry, .code yXT_dropEntry cXT_dropEntry 2 none, .methodLink "WideStore" 143 yXT_dropOld, .instanceMethod yXT_dropOld, .selects "WideStore$Table" yXT_dropOld yXT_dropOld, .code yXT_dropOld cXT_dropOld 5 none, .methodLink "WideStore" 147 yXA_remove, .instanceMethod yXA_remove, .selects "java/util/ArrayList" yXA_remove yXA_remove, .code yXA_remove cXA_remove 4 (some (.object "java/lang/Object")), .methodLink "java/util/ArrayList" 144 yXA_fastRemove, .instanceMethod yXA_fastRemove, .code yXA_fastRemove cXA_fastRemove 4 none, .methodLink "java/util/ArrayList" 112 arraycopyName, .methodLink "WideStoreLaw" 26 yXS_delete, .instanceMethod yXS_delete, .selects "WideStore" yXS_delete yXS_delete, .code yXS_delete cXS_delete 4 (some .boolean), .methodLink "WideStoreLaw" 31 yXS_wipe, .instanceMethod yXS_wipe, .selects "WideStore" yXS_wipe yXS_wipe, .code yXS_wipe cXS_wipe 5 (some .boolean), .methodLink "WideStore" 75 yXS_wipeSlot, .methodLink "WideStoreLaw" 36 yXS_get, .instanceMethod yXS_get, .selects "WideStore" yXS_get yXS_get, .code yXS_get cXS_get 4 (some .int), .methodLink "WideStore" 79 yXS_seenCell, .instanceMethod yXS_seenCell, .code yXS_seenCell cXS_seenCell 4 (some (.object "WideStore$Entry")), .methodLink "WideStore" 150 yXS_winningPoint, .instanceMethod yXS_winningPoint, .code yXS_winningPoint cXS_winningPoint 6 (some (.object "WideStore$Entry")), .methodLink "WideStore" 163 yXT_pointAt, .methodLink "WideStore" 166 yXE_winsOver, .methodLink "WideStore" 159 yXS_isCovered, .instanceMethod yXS_isCovered, .code yXS_isCovered cXS_isCovered 5 (some .boolean), .methodLink "WideStore" 169 yXT_covers]
def AL_7 : List Cond := [.methodLink "WideStoreLaw" 41 yXS_stamp, .instanceMethod yXS_stamp, .selects "WideStore" yXS_stamp yXS_stamp, .code yXS_stamp cXS_stamp 4 (some .int), .methodLink "WideStoreLaw" 45 yXS_next, .instanceMethod yXS_next, .selects "WideStore" yXS_next yXS_next, .code yXS_next cXS_next 4 (some .int), .methodLink "WideStoreLaw" 49 yXS_nextRow, .instanceMethod yXS_nextRow, .selects "WideStore" yXS_nextRow yXS_nextRow, .code yXS_nextRow cXS_nextRow 3 (some .int), .methodLink "WideStore" 89 yXS_next, .methodLink "WideStoreLaw" 54 yXS_flush, .instanceMethod yXS_flush, .selects "WideStore" yXS_flush yXS_flush, .code yXS_flush cXS_flush 2 (some .int), .methodLink "WideStoreLaw" 59 yXS_merge, .instanceMethod yXS_merge, .selects "WideStore" yXS_merge yXS_merge, .code yXS_merge cXS_merge 1 (some .int), .methodLink "WideStore" 98 yXA_isEmpty, .instanceMethod yXA_isEmpty, .selects "java/util/ArrayList" yXA_isEmpty yXA_isEmpty, .code yXA_isEmpty cXA_isEmpty 1 (some .boolean), .methodLink "WideStore" 102 yXS_greatestTier, .instanceMethod yXS_greatestTier, .code yXS_greatestTier cXS_greatestTier 3 (some .int), .methodLink "WideStoreLaw" 63 yXS_sync, .instanceMethod yXS_sync, .selects "WideStore" yXS_sync yXS_sync, .code yXS_sync cXS_sync 1 (some .int), .methodLink "WideStoreLaw" 67 yXS_crash, .instanceMethod yXS_crash, .selects "WideStore" yXS_crash yXS_crash, .code yXS_crash cXS_crash 2 (some .int), .methodLink "WideStore" 110 yXT_clearSlots, .instanceMethod yXT_clearSlots, .selects "WideStore$Table" yXT_clearSlots yXT_clearSlots, .code yXT_clearSlots cXT_clearSlots 2 none]
def AL_8 : List Cond := [.methodLink "WideStoreLaw" 71 yXS_tick, .instanceMethod yXS_tick, .selects "WideStore" yXS_tick yXS_tick, .code yXS_tick cXS_tick 2 (some .int), .methodLink "WideStoreLaw" 75 yXS_count, .instanceMethod yXS_count, .selects "WideStore" yXS_count yXS_count, .code yXS_count cXS_count 2 (some .int), .methodLink "WideStoreLaw" 79 yXS_run, .instanceMethod yXS_run, .selects "WideStore" yXS_run yXS_run, .code yXS_run cXS_run 4 (some .int), .methodLink "WideStoreLaw" 9 yXL_cell, .static yXL_cell, .code yXL_cell cXL_cell 2 (some .int), .classLink "WideStoreLaw" 18 "WideStoreModel", .instantiable "WideStoreModel" 16, .methodLink "WideStoreLaw" 20 yXM_init, .instanceMethod yXM_init, .code yXM_init cXM_init 3 none, .methodLink "WideStoreModel" 1 objectInit, .fieldLink "WideStoreModel" 31 "WideStoreModel" "cap" "I", .fieldLink "WideStoreModel" 35 "WideStoreModel" "grace" "I", .fieldLink "WideStoreModel" 75 "WideStoreModel" "now" "I", .fieldLink "WideStoreModel" 42 "WideStoreModel" "memories" "I", .fieldLink "WideStoreModel" 7 "WideStoreModel" "memory" "[I", .fieldLink "WideStoreModel" 56 "WideStoreModel" "logs" "I", .fieldLink "WideStoreModel" 91 "WideStoreModel" "safe" "I", .fieldLink "WideStoreModel" 13 "WideStoreModel" "log" "[I", .fieldLink "WideStoreModel" 85 "WideStoreModel" "flushed" "I", .fieldLink "WideStoreModel" 16 "WideStoreModel" "entry" "[I", .fieldLink "WideStoreModel" 19 "WideStoreModel" "runOf" "[I", .fieldLink "WideStoreModel" 88 "WideStoreModel" "runs" "I", .fieldLink "WideStoreModel" 82 "WideStoreModel" "marks" "I", .fieldLink "WideStoreModel" 22 "WideStoreModel" "mark" "[I", .fieldLink "WideStoreModel" 25 "WideStoreModel" "tier" "[I", .fieldLink "WideStoreModel" 28 "WideStoreModel" "cell" "[I", .laysFinal "WideStoreModel" "WideStoreModel" "cap" "I", .laysFinal "WideStoreModel" "WideStoreModel" "grace" "I", .lays "WideStoreModel" "WideStoreModel" "now" "I"]
def AL_9 : List Cond := [.lays "WideStoreModel" "WideStoreModel" "memories" "I", .laysFinal "WideStoreModel" "WideStoreModel" "memory" "[I", .lays "WideStoreModel" "WideStoreModel" "logs" "I", .lays "WideStoreModel" "WideStoreModel" "safe" "I", .laysFinal "WideStoreModel" "WideStoreModel" "log" "[I", .lays "WideStoreModel" "WideStoreModel" "flushed" "I", .laysFinal "WideStoreModel" "WideStoreModel" "entry" "[I", .laysFinal "WideStoreModel" "WideStoreModel" "runOf" "[I", .lays "WideStoreModel" "WideStoreModel" "runs" "I", .lays "WideStoreModel" "WideStoreModel" "marks" "I", .laysFinal "WideStoreModel" "WideStoreModel" "mark" "[I", .laysFinal "WideStoreModel" "WideStoreModel" "tier" "[I", .laysFinal "WideStoreModel" "WideStoreModel" "cell" "[I", .arrayClass .int, .methodLink "WideStoreLaw" 25 yXM_put, .instanceMethod yXM_put, .selects "WideStoreModel" yXM_put yXM_put, .code yXM_put cXM_put 6 (some .boolean), .methodLink "WideStoreModel" 67 yXM_isPlace, .static yXM_isPlace, .code yXM_isPlace cXM_isPlace 2 (some .boolean), .methodLink "WideStoreModel" 71 yXM_isStamp, .static yXM_isStamp, .code yXM_isStamp cXM_isStamp 1 (some .boolean), .methodLink "WideStoreModel" 78 yXM_add, .instanceMethod yXM_add, .code yXM_add cXM_add 10 (some .boolean), .methodLink "WideStoreModel" 59 yXM_remember, .instanceMethod yXM_remember, .code yXM_remember cXM_remember 3 none, .methodLink "WideStoreModel" 45 yXM_alike, .static yXM_alike, .code yXM_alike cXM_alike 5 (some .boolean), .methodLink "WideStoreModel" 38 yXM_point, .static yXM_point, .code yXM_point cXM_point 2 (some .boolean), .methodLink "WideStoreModel" 49 yXM_wins, .static yXM_wins, .code yXM_wins cXM_wins 4 (some .boolean), .methodLink "WideStoreModel" 52 yXM_copy]
def AL_10 : List Cond := [.static yXM_copy, .code yXM_copy cXM_copy 5 none, .methodLink "WideStoreModel" 63 yXM_flushAll, .instanceMethod yXM_flushAll, .code yXM_flushAll cXM_flushAll 3 (some .int), .methodLink "WideStoreModel" 94 yXM_join, .instanceMethod yXM_join, .code yXM_join cXM_join 8 none, .methodLink "WideStoreModel" 98 yXM_covers, .static yXM_covers, .code yXM_covers cXM_covers 5 (some .boolean), .methodLink "WideStoreLaw" 30 yXM_delete, .instanceMethod yXM_delete, .selects "WideStoreModel" yXM_delete yXM_delete, .code yXM_delete cXM_delete 4 (some .boolean), .methodLink "WideStoreLaw" 35 yXM_wipe, .instanceMethod yXM_wipe, .selects "WideStoreModel" yXM_wipe yXM_wipe, .code yXM_wipe cXM_wipe 5 (some .boolean), .methodLink "WideStoreLaw" 58 yXM_flush, .instanceMethod yXM_flush, .selects "WideStoreModel" yXM_flush yXM_flush, .code yXM_flush cXM_flush 1 (some .int), .methodLink "WideStoreLaw" 62 yXM_merge, .instanceMethod yXM_merge, .selects "WideStoreModel" yXM_merge yXM_merge, .code yXM_merge cXM_merge 3 (some .int), .methodLink "WideStoreModel" 102 yXM_run, .instanceMethod yXM_run, .selects "WideStoreModel" yXM_run yXM_run, .code yXM_run cXM_run 5 (some .int), .methodLink "WideStoreLaw" 40 yXM_get, .instanceMethod yXM_get, .selects "WideStoreModel" yXM_get yXM_get, .code yXM_get cXM_get 3 (some .int), .methodLink "WideStoreModel" 110 yXM_seen, .instanceMethod yXM_seen, .code yXM_seen cXM_seen 5 (some .boolean), .methodLink "WideStoreModel" 107 yXM_winner, .instanceMethod yXM_winner]
def AL_11 : List Cond := [.code yXM_winner cXM_winner 6 (some .int), .constant "WideStoreModel" 106 (-1000000), .methodLink "WideStoreLaw" 44 yXM_stamp, .instanceMethod yXM_stamp, .selects "WideStoreModel" yXM_stamp yXM_stamp, .code yXM_stamp cXM_stamp 3 (some .int), .methodLink "WideStoreLaw" 48 yXM_next, .instanceMethod yXM_next, .selects "WideStoreModel" yXM_next yXM_next, .code yXM_next cXM_next 4 (some .int), .methodLink "WideStoreLaw" 53 yXM_nextRow, .instanceMethod yXM_nextRow, .selects "WideStoreModel" yXM_nextRow yXM_nextRow, .code yXM_nextRow cXM_nextRow 3 (some .int), .methodLink "WideStoreModel" 113 yXM_next, .methodLink "WideStoreLaw" 66 yXM_sync, .instanceMethod yXM_sync, .selects "WideStoreModel" yXM_sync yXM_sync, .code yXM_sync cXM_sync 1 (some .int), .methodLink "WideStoreLaw" 70 yXM_crash, .instanceMethod yXM_crash, .selects "WideStoreModel" yXM_crash yXM_crash, .code yXM_crash cXM_crash 2 (some .int), .methodLink "WideStoreLaw" 74 yXM_tick, .instanceMethod yXM_tick, .selects "WideStoreModel" yXM_tick yXM_tick, .code yXM_tick cXM_tick 2 (some .int), .methodLink "WideStoreLaw" 78 yXM_count, .instanceMethod yXM_count, .selects "WideStoreModel" yXM_count yXM_count, .code yXM_count cXM_count 2 (some .int), .methodLink "WideStoreLaw" 82 yXM_run, .selects "[Ljava/lang/Object;" ⟨"java/lang/Object", "getClass", "()Ljava/lang/Class;"⟩ ⟨"java/lang/Object", "getClass", "()Ljava/lang/Class;"⟩]
def AL : List Cond := AL_0 ++ (AL_1 ++ (AL_2 ++ (AL_3 ++ (AL_4 ++ (AL_5 ++ (AL_6 ++ (AL_7 ++ (AL_8 ++ (AL_9 ++ (AL_10 ++ (AL_11)))))))))))
theorem AL_0_good : AL_0.all goodWord = true := by decide +kernel
theorem AL_1_good : AL_1.all goodWord = true := by decide +kernel
theorem AL_2_good : AL_2.all goodWord = true := by decide +kernel
theorem AL_3_good : AL_3.all goodWord = true := by decide +kernel
theorem AL_4_good : AL_4.all goodWord = true := by decide +kernel
theorem AL_5_good : AL_5.all goodWord = true := by decide +kernel
theorem AL_6_good : AL_6.all goodWord = true := by decide +kernel
theorem AL_7_good : AL_7.all goodWord = true := by decide +kernel
theorem AL_8_good : AL_8.all goodWord = true := by decide +kernel
theorem AL_9_good : AL_9.all goodWord = true := by decide +kernel
theorem AL_10_good : AL_10.all goodWord = true := by decide +kernel
theorem AL_11_good : AL_11.all goodWord = true := by decide +kernel
theorem al_0 : (.selects yXS_addEntry.cls yXS_addEntry yXS_addEntry : Cond) ∈ AL := List.mem_append_left _ (show _ ∈ AL_0 from List.mem_of_getElem? (i := 0) rfl)
theorem al_1 : (.selects yXS_flushMemory.cls yXS_flushMemory yXS_flushMemory : Cond) ∈ AL := List.mem_append_left _ (show _ ∈ AL_0 from List.mem_of_getElem? (i := 1) rfl)
theorem al_2 : (.selects yXA_addp.cls yXA_addp yXA_addp : Cond) ∈ AL := List.mem_append_left _ (show _ ∈ AL_0 from List.mem_of_getElem? (i := 2) rfl)
theorem al_3 : (.selects yXA_grow0.cls yXA_grow0 yXA_grow0 : Cond) ∈ AL := List.mem_append_left _ (show _ ∈ AL_0 from List.mem_of_getElem? (i := 3) rfl)
theorem al_4 : (.selects yXA_grow1.cls yXA_grow1 yXA_grow1 : Cond) ∈ AL := List.mem_append_left _ (show _ ∈ AL_0 from List.mem_of_getElem? (i := 4) rfl)
theorem al_5 : (.selects yXS_newestAreOfOneTier.cls yXS_newestAreOfOneTier yXS_newestAreOfOneTier : Cond) ∈ AL := List.mem_append_left _ (show _ ∈ AL_0 from List.mem_of_getElem? (i := 5) rfl)
theorem al_6 : (.selects yXS_mergeFrom.cls yXS_mergeFrom yXS_mergeFrom : Cond) ∈ AL := List.mem_append_left _ (show _ ∈ AL_0 from List.mem_of_getElem? (i := 6) rfl)
theorem al_7 : (.selects yXT_dropEntry.cls yXT_dropEntry yXT_dropEntry : Cond) ∈ AL := List.mem_append_left _ (show _ ∈ AL_0 from List.mem_of_getElem? (i := 7) rfl)
theorem al_8 : (.selects yXA_fastRemove.cls yXA_fastRemove yXA_fastRemove : Cond) ∈ AL := List.mem_append_left _ (show _ ∈ AL_0 from List.mem_of_getElem? (i := 8) rfl)
theorem al_9 : (.selects yXS_seenCell.cls yXS_seenCell yXS_seenCell : Cond) ∈ AL := List.mem_append_left _ (show _ ∈ AL_0 from List.mem_of_getElem? (i := 9) rfl)
theorem al_10 : (.selects yXS_winningPoint.cls yXS_winningPoint yXS_winningPoint : Cond) ∈ AL := List.mem_append_left _ (show _ ∈ AL_0 from List.mem_of_getElem? (i := 10) rfl)
theorem al_11 : (.selects yXS_isCovered.cls yXS_isCovered yXS_isCovered : Cond) ∈ AL := List.mem_append_left _ (show _ ∈ AL_0 from List.mem_of_getElem? (i := 11) rfl)
theorem al_12 : (.selects yXS_greatestTier.cls yXS_greatestTier yXS_greatestTier : Cond) ∈ AL := List.mem_append_left _ (show _ ∈ AL_0 from List.mem_of_getElem? (i := 12) rfl)
theorem al_13 : (.selects yXM_add.cls yXM_add yXM_add : Cond) ∈ AL := List.mem_append_left _ (show _ ∈ AL_0 from List.mem_of_getElem? (i := 13) rfl)
theorem al_14 : (.selects yXM_remember.cls yXM_remember yXM_remember : Cond) ∈ AL := List.mem_append_left _ (show _ ∈ AL_0 from List.mem_of_getElem? (i := 14) rfl)
theorem al_15 : (.selects yXM_flushAll.cls yXM_flushAll yXM_flushAll : Cond) ∈ AL := List.mem_append_left _ (show _ ∈ AL_0 from List.mem_of_getElem? (i := 15) rfl)
theorem al_16 : (.selects yXM_join.cls yXM_join yXM_join : Cond) ∈ AL := List.mem_append_left _ (show _ ∈ AL_0 from List.mem_of_getElem? (i := 16) rfl)
theorem al_17 : (.selects yXM_seen.cls yXM_seen yXM_seen : Cond) ∈ AL := List.mem_append_left _ (show _ ∈ AL_0 from List.mem_of_getElem? (i := 17) rfl)
theorem al_18 : (.selects yXM_winner.cls yXM_winner yXM_winner : Cond) ∈ AL := List.mem_append_left _ (show _ ∈ AL_0 from List.mem_of_getElem? (i := 18) rfl)
theorem al_19 : (.initialized "WideStoreLaw" : Cond) ∈ AL := List.mem_append_left _ (show _ ∈ AL_0 from List.mem_of_getElem? (i := 19) rfl)
theorem al_20 : (.initialized "WideStore" : Cond) ∈ AL := List.mem_append_left _ (show _ ∈ AL_0 from List.mem_of_getElem? (i := 20) rfl)
theorem al_21 : (.initialized "java/lang/Math" : Cond) ∈ AL := List.mem_append_left _ (show _ ∈ AL_0 from List.mem_of_getElem? (i := 21) rfl)
theorem al_22 : (.initialized "java/util/AbstractCollection" : Cond) ∈ AL := List.mem_append_left _ (show _ ∈ AL_0 from List.mem_of_getElem? (i := 22) rfl)
theorem al_23 : (.initialized "java/util/AbstractList" : Cond) ∈ AL := List.mem_append_left _ (show _ ∈ AL_0 from List.mem_of_getElem? (i := 23) rfl)
theorem al_24 : (.initialized "java/util/ArrayList" : Cond) ∈ AL := List.mem_append_left _ (show _ ∈ AL_0 from List.mem_of_getElem? (i := 24) rfl)
theorem al_25 : (.initialized "WideStore$Table" : Cond) ∈ AL := List.mem_append_left _ (show _ ∈ AL_0 from List.mem_of_getElem? (i := 25) rfl)
theorem al_26 : (.initialized "WideStoreModel" : Cond) ∈ AL := List.mem_append_left _ (show _ ∈ AL_0 from List.mem_of_getElem? (i := 26) rfl)
theorem al_27 : (.initialized "WideStore$Entry" : Cond) ∈ AL := List.mem_append_left _ (show _ ∈ AL_0 from List.mem_of_getElem? (i := 27) rfl)
theorem al_28 : (.initialized "jdk/internal/util/ArraysSupport" : Cond) ∈ AL := List.mem_append_left _ (show _ ∈ AL_0 from List.mem_of_getElem? (i := 28) rfl)
theorem al_29 : (.initialized "java/util/Arrays" : Cond) ∈ AL := List.mem_append_left _ (show _ ∈ AL_0 from List.mem_of_getElem? (i := 29) rfl)
theorem al_30 : (.initialized "java/lang/System" : Cond) ∈ AL := List.mem_append_left _ (show _ ∈ AL_0 from List.mem_of_getElem? (i := 30) rfl)
theorem al_31 : (.initialized "java/util/Objects" : Cond) ∈ AL := List.mem_append_left _ (show _ ∈ AL_0 from List.mem_of_getElem? (i := 31) rfl)
theorem al_32 : (.initialized "jdk/internal/util/Preconditions" : Cond) ∈ AL := List.mem_append_left _ (show _ ∈ AL_0 from List.mem_of_getElem? (i := 32) rfl)
theorem al_33 : (.classLink "WideStoreLaw" 7 "WideStore" : Cond) ∈ AL := List.mem_append_left _ (show _ ∈ AL_0 from List.mem_of_getElem? (i := 33) rfl)
theorem al_34 : (.instantiable "WideStore" 8 : Cond) ∈ AL := List.mem_append_left _ (show _ ∈ AL_0 from List.mem_of_getElem? (i := 34) rfl)
theorem al_35 : (.methodLink "WideStoreLaw" 15 yXS_init : Cond) ∈ AL := List.mem_append_left _ (show _ ∈ AL_0 from List.mem_of_getElem? (i := 35) rfl)
theorem al_36 : (.instanceMethod yXS_init : Cond) ∈ AL := List.mem_append_left _ (show _ ∈ AL_0 from List.mem_of_getElem? (i := 36) rfl)
theorem al_37 : (.code yXS_init cXS_init 3 none : Cond) ∈ AL := List.mem_append_left _ (show _ ∈ AL_0 from List.mem_of_getElem? (i := 37) rfl)
theorem al_38 : (.methodLink "WideStore" 3 objectInit : Cond) ∈ AL := List.mem_append_left _ (show _ ∈ AL_0 from List.mem_of_getElem? (i := 38) rfl)
theorem al_39 : (.instanceMethod objectInit : Cond) ∈ AL := List.mem_append_left _ (show _ ∈ AL_0 from List.mem_of_getElem? (i := 39) rfl)
theorem al_40 : (.code objectInit ⟨#[0xb1]⟩ 1 none : Cond) ∈ AL := List.mem_append_right _ (List.mem_append_left _ (show _ ∈ AL_1 from List.mem_of_getElem? (i := 0) rfl))
theorem al_41 : (.methodLink "WideStore" 9 Lib.Math.min.name : Cond) ∈ AL := List.mem_append_right _ (List.mem_append_left _ (show _ ∈ AL_1 from List.mem_of_getElem? (i := 1) rfl))
theorem al_42 : (.static Lib.Math.min.name : Cond) ∈ AL := List.mem_append_right _ (List.mem_append_left _ (show _ ∈ AL_1 from List.mem_of_getElem? (i := 2) rfl))
theorem al_43 : (.code Lib.Math.min.name Lib.Math.min.code 2 (some .int) : Cond) ∈ AL := List.mem_append_right _ (List.mem_append_left _ (show _ ∈ AL_1 from List.mem_of_getElem? (i := 3) rfl))
theorem al_44 : (.methodLink "WideStore" 15 Lib.Math.max.name : Cond) ∈ AL := List.mem_append_right _ (List.mem_append_left _ (show _ ∈ AL_1 from List.mem_of_getElem? (i := 4) rfl))
theorem al_45 : (.static Lib.Math.max.name : Cond) ∈ AL := List.mem_append_right _ (List.mem_append_left _ (show _ ∈ AL_1 from List.mem_of_getElem? (i := 5) rfl))
theorem al_46 : (.code Lib.Math.max.name Lib.Math.max.code 2 (some .int) : Cond) ∈ AL := List.mem_append_right _ (List.mem_append_left _ (show _ ∈ AL_1 from List.mem_of_getElem? (i := 6) rfl))
theorem al_47 : (.classLink "WideStore" 25 "WideStore$Entry" : Cond) ∈ AL := List.mem_append_right _ (List.mem_append_left _ (show _ ∈ AL_1 from List.mem_of_getElem? (i := 7) rfl))
theorem al_48 : (.classLink "WideStore" 31 "java/util/ArrayList" : Cond) ∈ AL := List.mem_append_right _ (List.mem_append_left _ (show _ ∈ AL_1 from List.mem_of_getElem? (i := 8) rfl))
theorem al_49 : (.instantiable "java/util/ArrayList" 3 : Cond) ∈ AL := List.mem_append_right _ (List.mem_append_left _ (show _ ∈ AL_1 from List.mem_of_getElem? (i := 9) rfl))
theorem al_50 : (.methodLink "WideStore" 33 yXA_init : Cond) ∈ AL := List.mem_append_right _ (List.mem_append_left _ (show _ ∈ AL_1 from List.mem_of_getElem? (i := 10) rfl))
theorem al_51 : (.instanceMethod yXA_init : Cond) ∈ AL := List.mem_append_right _ (List.mem_append_left _ (show _ ∈ AL_1 from List.mem_of_getElem? (i := 11) rfl))
theorem al_52 : (.code yXA_init cXA_init 1 none : Cond) ∈ AL := List.mem_append_right _ (List.mem_append_left _ (show _ ∈ AL_1 from List.mem_of_getElem? (i := 12) rfl))
theorem al_53 : (.methodLink "java/util/ArrayList" 1 yXB_init : Cond) ∈ AL := List.mem_append_right _ (List.mem_append_left _ (show _ ∈ AL_1 from List.mem_of_getElem? (i := 13) rfl))
theorem al_54 : (.instanceMethod yXB_init : Cond) ∈ AL := List.mem_append_right _ (List.mem_append_left _ (show _ ∈ AL_1 from List.mem_of_getElem? (i := 14) rfl))
theorem al_55 : (.code yXB_init cXB_init 1 none : Cond) ∈ AL := List.mem_append_right _ (List.mem_append_left _ (show _ ∈ AL_1 from List.mem_of_getElem? (i := 15) rfl))
theorem al_56 : (.methodLink "java/util/AbstractList" 1 yXC_init : Cond) ∈ AL := List.mem_append_right _ (List.mem_append_left _ (show _ ∈ AL_1 from List.mem_of_getElem? (i := 16) rfl))
theorem al_57 : (.instanceMethod yXC_init : Cond) ∈ AL := List.mem_append_right _ (List.mem_append_left _ (show _ ∈ AL_1 from List.mem_of_getElem? (i := 17) rfl))
theorem al_58 : (.code yXC_init cXC_init 1 none : Cond) ∈ AL := List.mem_append_right _ (List.mem_append_left _ (show _ ∈ AL_1 from List.mem_of_getElem? (i := 18) rfl))
theorem al_59 : (.methodLink "java/util/AbstractCollection" 1 objectInit : Cond) ∈ AL := List.mem_append_right _ (List.mem_append_left _ (show _ ∈ AL_1 from List.mem_of_getElem? (i := 19) rfl))
theorem al_60 : (.fieldLink "java/util/ArrayList" 39 "java/util/ArrayList" "DEFAULTCAPACITY_EMPTY_ELEMENTDATA" "[Ljava/lang/Object;" : Cond) ∈ AL := List.mem_append_right _ (List.mem_append_left _ (show _ ∈ AL_1 from List.mem_of_getElem? (i := 20) rfl))
theorem al_61 : (.fieldLink "java/util/ArrayList" 9 "java/util/ArrayList" "elementData" "[Ljava/lang/Object;" : Cond) ∈ AL := List.mem_append_right _ (List.mem_append_left _ (show _ ∈ AL_1 from List.mem_of_getElem? (i := 21) rfl))
theorem al_62 : (.fieldLink "java/util/ArrayList" 48 "java/util/ArrayList" "size" "I" : Cond) ∈ AL := List.mem_append_right _ (List.mem_append_left _ (show _ ∈ AL_1 from List.mem_of_getElem? (i := 22) rfl))
theorem al_63 : (.fieldLink "java/util/AbstractList" 7 "java/util/AbstractList" "modCount" "I" : Cond) ∈ AL := List.mem_append_right _ (List.mem_append_left _ (show _ ∈ AL_1 from List.mem_of_getElem? (i := 23) rfl))
theorem al_64 : (.fieldLink "java/util/ArrayList" 63 "java/util/ArrayList" "modCount" "I" : Cond) ∈ AL := List.mem_append_right _ (List.mem_append_left _ (show _ ∈ AL_1 from List.mem_of_getElem? (i := 24) rfl))
theorem al_65 : (.sameField "java/util/ArrayList" "java/util/AbstractList" "modCount" "I" : Cond) ∈ AL := List.mem_append_right _ (List.mem_append_left _ (show _ ∈ AL_1 from List.mem_of_getElem? (i := 25) rfl))
theorem al_66 : (.lays "java/util/ArrayList" "java/util/ArrayList" "elementData" "[Ljava/lang/Object;" : Cond) ∈ AL := List.mem_append_right _ (List.mem_append_left _ (show _ ∈ AL_1 from List.mem_of_getElem? (i := 26) rfl))
theorem al_67 : (.lays "java/util/ArrayList" "java/util/ArrayList" "size" "I" : Cond) ∈ AL := List.mem_append_right _ (List.mem_append_left _ (show _ ∈ AL_1 from List.mem_of_getElem? (i := 27) rfl))
theorem al_68 : (.lays "java/util/ArrayList" "java/util/AbstractList" "modCount" "I" : Cond) ∈ AL := List.mem_append_right _ (List.mem_append_left _ (show _ ∈ AL_1 from List.mem_of_getElem? (i := 28) rfl))
theorem al_69 : (.classLink "WideStore" 38 "WideStore$Table" : Cond) ∈ AL := List.mem_append_right _ (List.mem_append_left _ (show _ ∈ AL_1 from List.mem_of_getElem? (i := 29) rfl))
theorem al_70 : (.instantiable "WideStore$Table" 4 : Cond) ∈ AL := List.mem_append_right _ (List.mem_append_left _ (show _ ∈ AL_1 from List.mem_of_getElem? (i := 30) rfl))
theorem al_71 : (.methodLink "WideStore" 40 yXT_init : Cond) ∈ AL := List.mem_append_right _ (List.mem_append_left _ (show _ ∈ AL_1 from List.mem_of_getElem? (i := 31) rfl))
theorem al_72 : (.instanceMethod yXT_init : Cond) ∈ AL := List.mem_append_right _ (List.mem_append_left _ (show _ ∈ AL_1 from List.mem_of_getElem? (i := 32) rfl))
theorem al_73 : (.code yXT_init cXT_init 2 none : Cond) ∈ AL := List.mem_append_right _ (List.mem_append_left _ (show _ ∈ AL_1 from List.mem_of_getElem? (i := 33) rfl))
theorem al_74 : (.methodLink "WideStore$Table" 3 objectInit : Cond) ∈ AL := List.mem_append_right _ (List.mem_append_left _ (show _ ∈ AL_1 from List.mem_of_getElem? (i := 34) rfl))
theorem al_75 : (.classLink "WideStore$Table" 15 "WideStore$Entry" : Cond) ∈ AL := List.mem_append_right _ (List.mem_append_left _ (show _ ∈ AL_1 from List.mem_of_getElem? (i := 35) rfl))
theorem al_76 : (.fieldLink "WideStore$Table" 9 "WideStore$Table" "tier" "I" : Cond) ∈ AL := List.mem_append_right _ (List.mem_append_left _ (show _ ∈ AL_1 from List.mem_of_getElem? (i := 36) rfl))
theorem al_77 : (.fieldLink "WideStore" 123 "WideStore$Table" "tier" "I" : Cond) ∈ AL := List.mem_append_right _ (List.mem_append_left _ (show _ ∈ AL_1 from List.mem_of_getElem? (i := 37) rfl))
theorem al_78 : (.fieldLink "WideStore$Table" 17 "WideStore$Table" "slots" "[LWideStore$Entry;" : Cond) ∈ AL := List.mem_append_right _ (List.mem_append_left _ (show _ ∈ AL_1 from List.mem_of_getElem? (i := 38) rfl))
theorem al_79 : (.fieldLink "WideStore$Table" 21 "WideStore$Table" "size" "I" : Cond) ∈ AL := List.mem_append_right _ (List.mem_append_left _ (show _ ∈ AL_1 from List.mem_of_getElem? (i := 39) rfl))
theorem al_80 : (.fieldLink "WideStore" 92 "WideStore$Table" "size" "I" : Cond) ∈ AL := List.mem_append_right _ (List.mem_append_right _ (List.mem_append_left _ (show _ ∈ AL_2 from List.mem_of_getElem? (i := 0) rfl)))
theorem al_81 : (.fieldLink "WideStore$Table" 24 "WideStore$Table" "wipes" "I" : Cond) ∈ AL := List.mem_append_right _ (List.mem_append_right _ (List.mem_append_left _ (show _ ∈ AL_2 from List.mem_of_getElem? (i := 1) rfl)))
theorem al_82 : (.fieldLink "WideStore" 126 "WideStore$Table" "wipes" "I" : Cond) ∈ AL := List.mem_append_right _ (List.mem_append_right _ (List.mem_append_left _ (show _ ∈ AL_2 from List.mem_of_getElem? (i := 2) rfl)))
theorem al_83 : (.laysFinal "WideStore$Table" "WideStore$Table" "tier" "I" : Cond) ∈ AL := List.mem_append_right _ (List.mem_append_right _ (List.mem_append_left _ (show _ ∈ AL_2 from List.mem_of_getElem? (i := 3) rfl)))
theorem al_84 : (.laysFinal "WideStore$Table" "WideStore$Table" "slots" "[LWideStore$Entry;" : Cond) ∈ AL := List.mem_append_right _ (List.mem_append_right _ (List.mem_append_left _ (show _ ∈ AL_2 from List.mem_of_getElem? (i := 4) rfl)))
theorem al_85 : (.lays "WideStore$Table" "WideStore$Table" "size" "I" : Cond) ∈ AL := List.mem_append_right _ (List.mem_append_right _ (List.mem_append_left _ (show _ ∈ AL_2 from List.mem_of_getElem? (i := 5) rfl)))
theorem al_86 : (.lays "WideStore$Table" "WideStore$Table" "wipes" "I" : Cond) ∈ AL := List.mem_append_right _ (List.mem_append_right _ (List.mem_append_left _ (show _ ∈ AL_2 from List.mem_of_getElem? (i := 6) rfl)))
theorem al_87 : (.fieldLink "WideStore" 18 "WideStore" "cap" "I" : Cond) ∈ AL := List.mem_append_right _ (List.mem_append_right _ (List.mem_append_left _ (show _ ∈ AL_2 from List.mem_of_getElem? (i := 7) rfl)))
theorem al_88 : (.fieldLink "WideStore" 22 "WideStore" "grace" "I" : Cond) ∈ AL := List.mem_append_right _ (List.mem_append_right _ (List.mem_append_left _ (show _ ∈ AL_2 from List.mem_of_getElem? (i := 8) rfl)))
theorem al_89 : (.fieldLink "WideStore" 27 "WideStore" "log" "[LWideStore$Entry;" : Cond) ∈ AL := List.mem_append_right _ (List.mem_append_right _ (List.mem_append_left _ (show _ ∈ AL_2 from List.mem_of_getElem? (i := 9) rfl)))
theorem al_90 : (.fieldLink "WideStore" 34 "WideStore" "runs" "Ljava/util/ArrayList;" : Cond) ∈ AL := List.mem_append_right _ (List.mem_append_right _ (List.mem_append_left _ (show _ ∈ AL_2 from List.mem_of_getElem? (i := 10) rfl)))
theorem al_91 : (.fieldLink "WideStore" 43 "WideStore" "memory" "LWideStore$Table;" : Cond) ∈ AL := List.mem_append_right _ (List.mem_append_right _ (List.mem_append_left _ (show _ ∈ AL_2 from List.mem_of_getElem? (i := 11) rfl)))
theorem al_92 : (.fieldLink "WideStore" 47 "WideStore" "logSize" "I" : Cond) ∈ AL := List.mem_append_right _ (List.mem_append_right _ (List.mem_append_left _ (show _ ∈ AL_2 from List.mem_of_getElem? (i := 12) rfl)))
theorem al_93 : (.fieldLink "WideStore" 50 "WideStore" "safeSize" "I" : Cond) ∈ AL := List.mem_append_right _ (List.mem_append_right _ (List.mem_append_left _ (show _ ∈ AL_2 from List.mem_of_getElem? (i := 13) rfl)))
theorem al_94 : (.fieldLink "WideStore" 53 "WideStore" "now" "I" : Cond) ∈ AL := List.mem_append_right _ (List.mem_append_right _ (List.mem_append_left _ (show _ ∈ AL_2 from List.mem_of_getElem? (i := 14) rfl)))
theorem al_95 : (.laysFinal "WideStore" "WideStore" "cap" "I" : Cond) ∈ AL := List.mem_append_right _ (List.mem_append_right _ (List.mem_append_left _ (show _ ∈ AL_2 from List.mem_of_getElem? (i := 15) rfl)))
theorem al_96 : (.laysFinal "WideStore" "WideStore" "grace" "I" : Cond) ∈ AL := List.mem_append_right _ (List.mem_append_right _ (List.mem_append_left _ (show _ ∈ AL_2 from List.mem_of_getElem? (i := 16) rfl)))
theorem al_97 : (.laysFinal "WideStore" "WideStore" "log" "[LWideStore$Entry;" : Cond) ∈ AL := List.mem_append_right _ (List.mem_append_right _ (List.mem_append_left _ (show _ ∈ AL_2 from List.mem_of_getElem? (i := 17) rfl)))
theorem al_98 : (.laysFinal "WideStore" "WideStore" "runs" "Ljava/util/ArrayList;" : Cond) ∈ AL := List.mem_append_right _ (List.mem_append_right _ (List.mem_append_left _ (show _ ∈ AL_2 from List.mem_of_getElem? (i := 18) rfl)))
theorem al_99 : (.lays "WideStore" "WideStore" "memory" "LWideStore$Table;" : Cond) ∈ AL := List.mem_append_right _ (List.mem_append_right _ (List.mem_append_left _ (show _ ∈ AL_2 from List.mem_of_getElem? (i := 19) rfl)))
theorem al_100 : (.lays "WideStore" "WideStore" "logSize" "I" : Cond) ∈ AL := List.mem_append_right _ (List.mem_append_right _ (List.mem_append_left _ (show _ ∈ AL_2 from List.mem_of_getElem? (i := 20) rfl)))
theorem al_101 : (.lays "WideStore" "WideStore" "safeSize" "I" : Cond) ∈ AL := List.mem_append_right _ (List.mem_append_right _ (List.mem_append_left _ (show _ ∈ AL_2 from List.mem_of_getElem? (i := 21) rfl)))
theorem al_102 : (.lays "WideStore" "WideStore" "now" "I" : Cond) ∈ AL := List.mem_append_right _ (List.mem_append_right _ (List.mem_append_left _ (show _ ∈ AL_2 from List.mem_of_getElem? (i := 22) rfl)))
theorem al_103 : (.methodLink "WideStoreLaw" 21 yXS_put : Cond) ∈ AL := List.mem_append_right _ (List.mem_append_right _ (List.mem_append_left _ (show _ ∈ AL_2 from List.mem_of_getElem? (i := 23) rfl)))
theorem al_104 : (.instanceMethod yXS_put : Cond) ∈ AL := List.mem_append_right _ (List.mem_append_right _ (List.mem_append_left _ (show _ ∈ AL_2 from List.mem_of_getElem? (i := 24) rfl)))
theorem al_105 : (.selects "WideStore" yXS_put yXS_put : Cond) ∈ AL := List.mem_append_right _ (List.mem_append_right _ (List.mem_append_left _ (show _ ∈ AL_2 from List.mem_of_getElem? (i := 25) rfl)))
theorem al_106 : (.code yXS_put cXS_put 7 (some .boolean) : Cond) ∈ AL := List.mem_append_right _ (List.mem_append_right _ (List.mem_append_left _ (show _ ∈ AL_2 from List.mem_of_getElem? (i := 26) rfl)))
theorem al_107 : (.methodLink "WideStore" 56 yXS_isPlace : Cond) ∈ AL := List.mem_append_right _ (List.mem_append_right _ (List.mem_append_left _ (show _ ∈ AL_2 from List.mem_of_getElem? (i := 27) rfl)))
theorem al_108 : (.static yXS_isPlace : Cond) ∈ AL := List.mem_append_right _ (List.mem_append_right _ (List.mem_append_left _ (show _ ∈ AL_2 from List.mem_of_getElem? (i := 28) rfl)))
theorem al_109 : (.code yXS_isPlace cXS_isPlace 2 (some .boolean) : Cond) ∈ AL := List.mem_append_right _ (List.mem_append_right _ (List.mem_append_left _ (show _ ∈ AL_2 from List.mem_of_getElem? (i := 29) rfl)))
theorem al_110 : (.methodLink "WideStore" 60 yXS_isStamp : Cond) ∈ AL := List.mem_append_right _ (List.mem_append_right _ (List.mem_append_left _ (show _ ∈ AL_2 from List.mem_of_getElem? (i := 30) rfl)))
theorem al_111 : (.static yXS_isStamp : Cond) ∈ AL := List.mem_append_right _ (List.mem_append_right _ (List.mem_append_left _ (show _ ∈ AL_2 from List.mem_of_getElem? (i := 31) rfl)))
theorem al_112 : (.code yXS_isStamp cXS_isStamp 1 (some .boolean) : Cond) ∈ AL := List.mem_append_right _ (List.mem_append_right _ (List.mem_append_left _ (show _ ∈ AL_2 from List.mem_of_getElem? (i := 32) rfl)))
theorem al_113 : (.constant "WideStore" 64 2147483647 : Cond) ∈ AL := List.mem_append_right _ (List.mem_append_right _ (List.mem_append_left _ (show _ ∈ AL_2 from List.mem_of_getElem? (i := 33) rfl)))
theorem al_114 : (.instantiable "WideStore$Entry" 5 : Cond) ∈ AL := List.mem_append_right _ (List.mem_append_right _ (List.mem_append_left _ (show _ ∈ AL_2 from List.mem_of_getElem? (i := 34) rfl)))
theorem al_115 : (.methodLink "WideStore" 65 yXS_pointSlot : Cond) ∈ AL := List.mem_append_right _ (List.mem_append_right _ (List.mem_append_left _ (show _ ∈ AL_2 from List.mem_of_getElem? (i := 35) rfl)))
theorem al_116 : (.static yXS_pointSlot : Cond) ∈ AL := List.mem_append_right _ (List.mem_append_right _ (List.mem_append_left _ (show _ ∈ AL_2 from List.mem_of_getElem? (i := 36) rfl)))
theorem al_117 : (.code yXS_pointSlot cXS_pointSlot 2 (some .int) : Cond) ∈ AL := List.mem_append_right _ (List.mem_append_right _ (List.mem_append_left _ (show _ ∈ AL_2 from List.mem_of_getElem? (i := 37) rfl)))
theorem al_118 : (.methodLink "WideStore" 68 yXE_init : Cond) ∈ AL := List.mem_append_right _ (List.mem_append_right _ (List.mem_append_left _ (show _ ∈ AL_2 from List.mem_of_getElem? (i := 38) rfl)))
theorem al_119 : (.instanceMethod yXE_init : Cond) ∈ AL := List.mem_append_right _ (List.mem_append_right _ (List.mem_append_left _ (show _ ∈ AL_2 from List.mem_of_getElem? (i := 39) rfl)))
theorem al_120 : (.code yXE_init cXE_init 6 none : Cond) ∈ AL := List.mem_append_right _ (List.mem_append_right _ (List.mem_append_right _ (List.mem_append_left _ (show _ ∈ AL_3 from List.mem_of_getElem? (i := 0) rfl))))
theorem al_121 : (.methodLink "WideStore$Entry" 1 objectInit : Cond) ∈ AL := List.mem_append_right _ (List.mem_append_right _ (List.mem_append_right _ (List.mem_append_left _ (show _ ∈ AL_3 from List.mem_of_getElem? (i := 1) rfl))))
theorem al_122 : (.fieldLink "WideStore$Entry" 7 "WideStore$Entry" "kind" "I" : Cond) ∈ AL := List.mem_append_right _ (List.mem_append_right _ (List.mem_append_right _ (List.mem_append_left _ (show _ ∈ AL_3 from List.mem_of_getElem? (i := 2) rfl))))
theorem al_123 : (.fieldLink "WideStore$Table" 34 "WideStore$Entry" "kind" "I" : Cond) ∈ AL := List.mem_append_right _ (List.mem_append_right _ (List.mem_append_right _ (List.mem_append_left _ (show _ ∈ AL_3 from List.mem_of_getElem? (i := 3) rfl))))
theorem al_124 : (.fieldLink "WideStore" 153 "WideStore$Entry" "kind" "I" : Cond) ∈ AL := List.mem_append_right _ (List.mem_append_right _ (List.mem_append_right _ (List.mem_append_left _ (show _ ∈ AL_3 from List.mem_of_getElem? (i := 4) rfl))))
theorem al_125 : (.fieldLink "WideStore$Entry" 13 "WideStore$Entry" "slot" "I" : Cond) ∈ AL := List.mem_append_right _ (List.mem_append_right _ (List.mem_append_right _ (List.mem_append_left _ (show _ ∈ AL_3 from List.mem_of_getElem? (i := 5) rfl))))
theorem al_126 : (.fieldLink "WideStore$Table" 31 "WideStore$Entry" "slot" "I" : Cond) ∈ AL := List.mem_append_right _ (List.mem_append_right _ (List.mem_append_right _ (List.mem_append_left _ (show _ ∈ AL_3 from List.mem_of_getElem? (i := 6) rfl))))
theorem al_127 : (.fieldLink "WideStore$Entry" 16 "WideStore$Entry" "stamp" "I" : Cond) ∈ AL := List.mem_append_right _ (List.mem_append_right _ (List.mem_append_right _ (List.mem_append_left _ (show _ ∈ AL_3 from List.mem_of_getElem? (i := 7) rfl))))
theorem al_128 : (.fieldLink "WideStore$Table" 49 "WideStore$Entry" "stamp" "I" : Cond) ∈ AL := List.mem_append_right _ (List.mem_append_right _ (List.mem_append_right _ (List.mem_append_left _ (show _ ∈ AL_3 from List.mem_of_getElem? (i := 8) rfl))))
theorem al_129 : (.fieldLink "WideStore" 86 "WideStore$Entry" "stamp" "I" : Cond) ∈ AL := List.mem_append_right _ (List.mem_append_right _ (List.mem_append_right _ (List.mem_append_left _ (show _ ∈ AL_3 from List.mem_of_getElem? (i := 9) rfl))))
theorem al_130 : (.fieldLink "WideStore$Entry" 19 "WideStore$Entry" "value" "I" : Cond) ∈ AL := List.mem_append_right _ (List.mem_append_right _ (List.mem_append_right _ (List.mem_append_left _ (show _ ∈ AL_3 from List.mem_of_getElem? (i := 10) rfl))))
theorem al_131 : (.fieldLink "WideStore" 83 "WideStore$Entry" "value" "I" : Cond) ∈ AL := List.mem_append_right _ (List.mem_append_right _ (List.mem_append_right _ (List.mem_append_left _ (show _ ∈ AL_3 from List.mem_of_getElem? (i := 11) rfl))))
theorem al_132 : (.fieldLink "WideStore$Entry" 22 "WideStore$Entry" "time" "I" : Cond) ∈ AL := List.mem_append_right _ (List.mem_append_right _ (List.mem_append_right _ (List.mem_append_left _ (show _ ∈ AL_3 from List.mem_of_getElem? (i := 12) rfl))))
theorem al_133 : (.fieldLink "WideStore$Table" 63 "WideStore$Entry" "time" "I" : Cond) ∈ AL := List.mem_append_right _ (List.mem_append_right _ (List.mem_append_right _ (List.mem_append_left _ (show _ ∈ AL_3 from List.mem_of_getElem? (i := 13) rfl))))
theorem al_134 : (.fieldLink "WideStore" 156 "WideStore$Entry" "time" "I" : Cond) ∈ AL := List.mem_append_right _ (List.mem_append_right _ (List.mem_append_right _ (List.mem_append_left _ (show _ ∈ AL_3 from List.mem_of_getElem? (i := 14) rfl))))
theorem al_135 : (.laysFinal "WideStore$Entry" "WideStore$Entry" "kind" "I" : Cond) ∈ AL := List.mem_append_right _ (List.mem_append_right _ (List.mem_append_right _ (List.mem_append_left _ (show _ ∈ AL_3 from List.mem_of_getElem? (i := 15) rfl))))
theorem al_136 : (.laysFinal "WideStore$Entry" "WideStore$Entry" "slot" "I" : Cond) ∈ AL := List.mem_append_right _ (List.mem_append_right _ (List.mem_append_right _ (List.mem_append_left _ (show _ ∈ AL_3 from List.mem_of_getElem? (i := 16) rfl))))
theorem al_137 : (.laysFinal "WideStore$Entry" "WideStore$Entry" "stamp" "I" : Cond) ∈ AL := List.mem_append_right _ (List.mem_append_right _ (List.mem_append_right _ (List.mem_append_left _ (show _ ∈ AL_3 from List.mem_of_getElem? (i := 17) rfl))))
theorem al_138 : (.laysFinal "WideStore$Entry" "WideStore$Entry" "value" "I" : Cond) ∈ AL := List.mem_append_right _ (List.mem_append_right _ (List.mem_append_right _ (List.mem_append_left _ (show _ ∈ AL_3 from List.mem_of_getElem? (i := 18) rfl))))
theorem al_139 : (.laysFinal "WideStore$Entry" "WideStore$Entry" "time" "I" : Cond) ∈ AL := List.mem_append_right _ (List.mem_append_right _ (List.mem_append_right _ (List.mem_append_left _ (show _ ∈ AL_3 from List.mem_of_getElem? (i := 19) rfl))))
theorem al_140 : (.methodLink "WideStore" 71 yXS_addEntry : Cond) ∈ AL := List.mem_append_right _ (List.mem_append_right _ (List.mem_append_right _ (List.mem_append_left _ (show _ ∈ AL_3 from List.mem_of_getElem? (i := 20) rfl))))
theorem al_141 : (.instanceMethod yXS_addEntry : Cond) ∈ AL := List.mem_append_right _ (List.mem_append_right _ (List.mem_append_right _ (List.mem_append_left _ (show _ ∈ AL_3 from List.mem_of_getElem? (i := 21) rfl))))
theorem al_142 : (.code yXS_addEntry cXS_addEntry 2 (some .boolean) : Cond) ∈ AL := List.mem_append_right _ (List.mem_append_right _ (List.mem_append_right _ (List.mem_append_left _ (show _ ∈ AL_3 from List.mem_of_getElem? (i := 22) rfl))))
theorem al_143 : (.methodLink "WideStore" 113 yXT_addWinner : Cond) ∈ AL := List.mem_append_right _ (List.mem_append_right _ (List.mem_append_right _ (List.mem_append_left _ (show _ ∈ AL_3 from List.mem_of_getElem? (i := 23) rfl))))
theorem al_144 : (.instanceMethod yXT_addWinner : Cond) ∈ AL := List.mem_append_right _ (List.mem_append_right _ (List.mem_append_right _ (List.mem_append_left _ (show _ ∈ AL_3 from List.mem_of_getElem? (i := 24) rfl))))
theorem al_145 : (.selects "WideStore$Table" yXT_addWinner yXT_addWinner : Cond) ∈ AL := List.mem_append_right _ (List.mem_append_right _ (List.mem_append_right _ (List.mem_append_left _ (show _ ∈ AL_3 from List.mem_of_getElem? (i := 25) rfl))))
theorem al_146 : (.code yXT_addWinner cXT_addWinner 3 none : Cond) ∈ AL := List.mem_append_right _ (List.mem_append_right _ (List.mem_append_right _ (List.mem_append_left _ (show _ ∈ AL_3 from List.mem_of_getElem? (i := 26) rfl))))
theorem al_147 : (.methodLink "WideStore$Table" 37 yXE_winsOver : Cond) ∈ AL := List.mem_append_right _ (List.mem_append_right _ (List.mem_append_right _ (List.mem_append_left _ (show _ ∈ AL_3 from List.mem_of_getElem? (i := 27) rfl))))
theorem al_148 : (.instanceMethod yXE_winsOver : Cond) ∈ AL := List.mem_append_right _ (List.mem_append_right _ (List.mem_append_right _ (List.mem_append_left _ (show _ ∈ AL_3 from List.mem_of_getElem? (i := 28) rfl))))
theorem al_149 : (.selects "WideStore$Entry" yXE_winsOver yXE_winsOver : Cond) ∈ AL := List.mem_append_right _ (List.mem_append_right _ (List.mem_append_right _ (List.mem_append_left _ (show _ ∈ AL_3 from List.mem_of_getElem? (i := 29) rfl))))
theorem al_150 : (.code yXE_winsOver cXE_winsOver 2 (some .boolean) : Cond) ∈ AL := List.mem_append_right _ (List.mem_append_right _ (List.mem_append_right _ (List.mem_append_left _ (show _ ∈ AL_3 from List.mem_of_getElem? (i := 30) rfl))))
theorem al_151 : (.methodLink "WideStore" 95 yXS_flushMemory : Cond) ∈ AL := List.mem_append_right _ (List.mem_append_right _ (List.mem_append_right _ (List.mem_append_left _ (show _ ∈ AL_3 from List.mem_of_getElem? (i := 31) rfl))))
theorem al_152 : (.instanceMethod yXS_flushMemory : Cond) ∈ AL := List.mem_append_right _ (List.mem_append_right _ (List.mem_append_right _ (List.mem_append_left _ (show _ ∈ AL_3 from List.mem_of_getElem? (i := 32) rfl))))
theorem al_153 : (.code yXS_flushMemory cXS_flushMemory 3 none : Cond) ∈ AL := List.mem_append_right _ (List.mem_append_right _ (List.mem_append_right _ (List.mem_append_left _ (show _ ∈ AL_3 from List.mem_of_getElem? (i := 33) rfl))))
theorem al_154 : (.methodLink "WideStore" 129 yXA_add : Cond) ∈ AL := List.mem_append_right _ (List.mem_append_right _ (List.mem_append_right _ (List.mem_append_left _ (show _ ∈ AL_3 from List.mem_of_getElem? (i := 34) rfl))))
theorem al_155 : (.instanceMethod yXA_add : Cond) ∈ AL := List.mem_append_right _ (List.mem_append_right _ (List.mem_append_right _ (List.mem_append_left _ (show _ ∈ AL_3 from List.mem_of_getElem? (i := 35) rfl))))
theorem al_156 : (.selects "java/util/ArrayList" yXA_add yXA_add : Cond) ∈ AL := List.mem_append_right _ (List.mem_append_right _ (List.mem_append_right _ (List.mem_append_left _ (show _ ∈ AL_3 from List.mem_of_getElem? (i := 36) rfl))))
theorem al_157 : (.code yXA_add cXA_add 2 (some .boolean) : Cond) ∈ AL := List.mem_append_right _ (List.mem_append_right _ (List.mem_append_right _ (List.mem_append_left _ (show _ ∈ AL_3 from List.mem_of_getElem? (i := 37) rfl))))
theorem al_158 : (.methodLink "java/util/ArrayList" 131 yXA_addp : Cond) ∈ AL := List.mem_append_right _ (List.mem_append_right _ (List.mem_append_right _ (List.mem_append_left _ (show _ ∈ AL_3 from List.mem_of_getElem? (i := 38) rfl))))
theorem al_159 : (.instanceMethod yXA_addp : Cond) ∈ AL := List.mem_append_right _ (List.mem_append_right _ (List.mem_append_right _ (List.mem_append_left _ (show _ ∈ AL_3 from List.mem_of_getElem? (i := 39) rfl))))
theorem al_160 : (.code yXA_addp cXA_addp 4 none : Cond) ∈ AL := List.mem_append_right _ (List.mem_append_right _ (List.mem_append_right _ (List.mem_append_right _ (List.mem_append_left _ (show _ ∈ AL_4 from List.mem_of_getElem? (i := 0) rfl)))))
theorem al_161 : (.methodLink "java/util/ArrayList" 129 yXA_grow0 : Cond) ∈ AL := List.mem_append_right _ (List.mem_append_right _ (List.mem_append_right _ (List.mem_append_right _ (List.mem_append_left _ (show _ ∈ AL_4 from List.mem_of_getElem? (i := 1) rfl)))))
theorem al_162 : (.instanceMethod yXA_grow0 : Cond) ∈ AL := List.mem_append_right _ (List.mem_append_right _ (List.mem_append_right _ (List.mem_append_right _ (List.mem_append_left _ (show _ ∈ AL_4 from List.mem_of_getElem? (i := 2) rfl)))))
theorem al_163 : (.code yXA_grow0 cXA_grow0 1 (some (.array (.object "java/lang/Object"))) : Cond) ∈ AL := List.mem_append_right _ (List.mem_append_right _ (List.mem_append_right _ (List.mem_append_right _ (List.mem_append_left _ (show _ ∈ AL_4 from List.mem_of_getElem? (i := 3) rfl)))))
theorem al_164 : (.methodLink "java/util/ArrayList" 69 yXA_grow1 : Cond) ∈ AL := List.mem_append_right _ (List.mem_append_right _ (List.mem_append_right _ (List.mem_append_right _ (List.mem_append_left _ (show _ ∈ AL_4 from List.mem_of_getElem? (i := 4) rfl)))))
theorem al_165 : (.instanceMethod yXA_grow1 : Cond) ∈ AL := List.mem_append_right _ (List.mem_append_right _ (List.mem_append_right _ (List.mem_append_right _ (List.mem_append_left _ (show _ ∈ AL_4 from List.mem_of_getElem? (i := 5) rfl)))))
theorem al_166 : (.code yXA_grow1 cXA_grow1 4 (some (.array (.object "java/lang/Object"))) : Cond) ∈ AL := List.mem_append_right _ (List.mem_append_right _ (List.mem_append_right _ (List.mem_append_right _ (List.mem_append_left _ (show _ ∈ AL_4 from List.mem_of_getElem? (i := 6) rfl)))))
theorem al_167 : (.methodLink "java/util/ArrayList" 73 yXU_newLength : Cond) ∈ AL := List.mem_append_right _ (List.mem_append_right _ (List.mem_append_right _ (List.mem_append_right _ (List.mem_append_left _ (show _ ∈ AL_4 from List.mem_of_getElem? (i := 7) rfl)))))
theorem al_168 : (.static yXU_newLength : Cond) ∈ AL := List.mem_append_right _ (List.mem_append_right _ (List.mem_append_right _ (List.mem_append_right _ (List.mem_append_left _ (show _ ∈ AL_4 from List.mem_of_getElem? (i := 8) rfl)))))
theorem al_169 : (.code yXU_newLength cXU_newLength 4 (some .int) : Cond) ∈ AL := List.mem_append_right _ (List.mem_append_right _ (List.mem_append_right _ (List.mem_append_right _ (List.mem_append_left _ (show _ ∈ AL_4 from List.mem_of_getElem? (i := 9) rfl)))))
theorem al_170 : (.methodLink "jdk/internal/util/ArraysSupport" 194 Lib.Math.max.name : Cond) ∈ AL := List.mem_append_right _ (List.mem_append_right _ (List.mem_append_right _ (List.mem_append_right _ (List.mem_append_left _ (show _ ∈ AL_4 from List.mem_of_getElem? (i := 10) rfl)))))
theorem al_171 : (.constant "jdk/internal/util/ArraysSupport" 200 2147483639 : Cond) ∈ AL := List.mem_append_right _ (List.mem_append_right _ (List.mem_append_right _ (List.mem_append_right _ (List.mem_append_left _ (show _ ∈ AL_4 from List.mem_of_getElem? (i := 11) rfl)))))
theorem al_172 : (.methodLink "jdk/internal/util/ArraysSupport" 201 yXU_hugeLength : Cond) ∈ AL := List.mem_append_right _ (List.mem_append_right _ (List.mem_append_right _ (List.mem_append_right _ (List.mem_append_left _ (show _ ∈ AL_4 from List.mem_of_getElem? (i := 12) rfl)))))
theorem al_173 : (.static yXU_hugeLength : Cond) ∈ AL := List.mem_append_right _ (List.mem_append_right _ (List.mem_append_right _ (List.mem_append_right _ (List.mem_append_left _ (show _ ∈ AL_4 from List.mem_of_getElem? (i := 13) rfl)))))
theorem al_174 : (.code yXU_hugeLength cXU_hugeLength 3 (some .int) : Cond) ∈ AL := List.mem_append_right _ (List.mem_append_right _ (List.mem_append_right _ (List.mem_append_right _ (List.mem_append_left _ (show _ ∈ AL_4 from List.mem_of_getElem? (i := 14) rfl)))))
theorem al_175 : (.methodLink "java/util/ArrayList" 66 yXY_copyOf2 : Cond) ∈ AL := List.mem_append_right _ (List.mem_append_right _ (List.mem_append_right _ (List.mem_append_right _ (List.mem_append_left _ (show _ ∈ AL_4 from List.mem_of_getElem? (i := 15) rfl)))))
theorem al_176 : (.static yXY_copyOf2 : Cond) ∈ AL := List.mem_append_right _ (List.mem_append_right _ (List.mem_append_right _ (List.mem_append_right _ (List.mem_append_left _ (show _ ∈ AL_4 from List.mem_of_getElem? (i := 16) rfl)))))
theorem al_177 : (.code yXY_copyOf2 cXY_copyOf2 2 (some (.array (.object "java/lang/Object"))) : Cond) ∈ AL := List.mem_append_right _ (List.mem_append_right _ (List.mem_append_right _ (List.mem_append_right _ (List.mem_append_left _ (show _ ∈ AL_4 from List.mem_of_getElem? (i := 17) rfl)))))
theorem al_178 : (.methodLink "java/util/Arrays" 86 ⟨"java/lang/Object", "getClass", "()Ljava/lang/Class;"⟩ : Cond) ∈ AL := List.mem_append_right _ (List.mem_append_right _ (List.mem_append_right _ (List.mem_append_right _ (List.mem_append_left _ (show _ ∈ AL_4 from List.mem_of_getElem? (i := 18) rfl)))))
theorem al_179 : (.instanceMethod ⟨"java/lang/Object", "getClass", "()Ljava/lang/Class;"⟩ : Cond) ∈ AL := List.mem_append_right _ (List.mem_append_right _ (List.mem_append_right _ (List.mem_append_right _ (List.mem_append_left _ (show _ ∈ AL_4 from List.mem_of_getElem? (i := 19) rfl)))))
theorem al_180 : (.selects "WideStore" ⟨"java/lang/Object", "getClass", "()Ljava/lang/Class;"⟩ ⟨"java/lang/Object", "getClass", "()Ljava/lang/Class;"⟩ : Cond) ∈ AL := List.mem_append_right _ (List.mem_append_right _ (List.mem_append_right _ (List.mem_append_right _ (List.mem_append_left _ (show _ ∈ AL_4 from List.mem_of_getElem? (i := 20) rfl)))))
theorem al_181 : (.selects "WideStore$Entry" ⟨"java/lang/Object", "getClass", "()Ljava/lang/Class;"⟩ ⟨"java/lang/Object", "getClass", "()Ljava/lang/Class;"⟩ : Cond) ∈ AL := List.mem_append_right _ (List.mem_append_right _ (List.mem_append_right _ (List.mem_append_right _ (List.mem_append_left _ (show _ ∈ AL_4 from List.mem_of_getElem? (i := 21) rfl)))))
theorem al_182 : (.selects "WideStore$Table" ⟨"java/lang/Object", "getClass", "()Ljava/lang/Class;"⟩ ⟨"java/lang/Object", "getClass", "()Ljava/lang/Class;"⟩ : Cond) ∈ AL := List.mem_append_right _ (List.mem_append_right _ (List.mem_append_right _ (List.mem_append_right _ (List.mem_append_left _ (show _ ∈ AL_4 from List.mem_of_getElem? (i := 22) rfl)))))
theorem al_183 : (.selects "WideStoreModel" ⟨"java/lang/Object", "getClass", "()Ljava/lang/Class;"⟩ ⟨"java/lang/Object", "getClass", "()Ljava/lang/Class;"⟩ : Cond) ∈ AL := List.mem_append_right _ (List.mem_append_right _ (List.mem_append_right _ (List.mem_append_right _ (List.mem_append_left _ (show _ ∈ AL_4 from List.mem_of_getElem? (i := 23) rfl)))))
theorem al_184 : (.selects "java/util/ArrayList" ⟨"java/lang/Object", "getClass", "()Ljava/lang/Class;"⟩ ⟨"java/lang/Object", "getClass", "()Ljava/lang/Class;"⟩ : Cond) ∈ AL := List.mem_append_right _ (List.mem_append_right _ (List.mem_append_right _ (List.mem_append_right _ (List.mem_append_left _ (show _ ∈ AL_4 from List.mem_of_getElem? (i := 24) rfl)))))
theorem al_185 : (.native ⟨"java/lang/Object", "getClass", "()Ljava/lang/Class;"⟩ : Cond) ∈ AL := List.mem_append_right _ (List.mem_append_right _ (List.mem_append_right _ (List.mem_append_right _ (List.mem_append_left _ (show _ ∈ AL_4 from List.mem_of_getElem? (i := 25) rfl)))))
theorem al_186 : (.methodLink "java/util/Arrays" 300 yXY_copyOf3 : Cond) ∈ AL := List.mem_append_right _ (List.mem_append_right _ (List.mem_append_right _ (List.mem_append_right _ (List.mem_append_left _ (show _ ∈ AL_4 from List.mem_of_getElem? (i := 26) rfl)))))
theorem al_187 : (.static yXY_copyOf3 : Cond) ∈ AL := List.mem_append_right _ (List.mem_append_right _ (List.mem_append_right _ (List.mem_append_right _ (List.mem_append_left _ (show _ ∈ AL_4 from List.mem_of_getElem? (i := 27) rfl)))))
theorem al_188 : (.code yXY_copyOf3 cXY_copyOf3 4 (some (.array (.object "java/lang/Object"))) : Cond) ∈ AL := List.mem_append_right _ (List.mem_append_right _ (List.mem_append_right _ (List.mem_append_right _ (List.mem_append_left _ (show _ ∈ AL_4 from List.mem_of_getElem? (i := 28) rfl)))))
theorem al_189 : (.classLink "java/util/Arrays" 110 "[Ljava/lang/Object;" : Cond) ∈ AL := List.mem_append_right _ (List.mem_append_right _ (List.mem_append_right _ (List.mem_append_right _ (List.mem_append_left _ (show _ ∈ AL_4 from List.mem_of_getElem? (i := 29) rfl)))))
theorem al_190 : (.classLink "java/util/Arrays" 2 "java/lang/Object" : Cond) ∈ AL := List.mem_append_right _ (List.mem_append_right _ (List.mem_append_right _ (List.mem_append_right _ (List.mem_append_left _ (show _ ∈ AL_4 from List.mem_of_getElem? (i := 30) rfl)))))
theorem al_191 : (.methodLink "java/util/Arrays" 304 Lib.Math.min.name : Cond) ∈ AL := List.mem_append_right _ (List.mem_append_right _ (List.mem_append_right _ (List.mem_append_right _ (List.mem_append_left _ (show _ ∈ AL_4 from List.mem_of_getElem? (i := 31) rfl)))))
theorem al_192 : (.methodLink "java/util/Arrays" 150 arraycopyName : Cond) ∈ AL := List.mem_append_right _ (List.mem_append_right _ (List.mem_append_right _ (List.mem_append_right _ (List.mem_append_left _ (show _ ∈ AL_4 from List.mem_of_getElem? (i := 32) rfl)))))
theorem al_193 : (.static arraycopyName : Cond) ∈ AL := List.mem_append_right _ (List.mem_append_right _ (List.mem_append_right _ (List.mem_append_right _ (List.mem_append_left _ (show _ ∈ AL_4 from List.mem_of_getElem? (i := 33) rfl)))))
theorem al_194 : (.native arraycopyName : Cond) ∈ AL := List.mem_append_right _ (List.mem_append_right _ (List.mem_append_right _ (List.mem_append_right _ (List.mem_append_left _ (show _ ∈ AL_4 from List.mem_of_getElem? (i := 34) rfl)))))
theorem al_195 : (.methodLink "java/util/ArrayList" 79 Lib.Math.max.name : Cond) ∈ AL := List.mem_append_right _ (List.mem_append_right _ (List.mem_append_right _ (List.mem_append_right _ (List.mem_append_left _ (show _ ∈ AL_4 from List.mem_of_getElem? (i := 35) rfl)))))
theorem al_196 : (.classLink "java/util/ArrayList" 7 "java/lang/Object" : Cond) ∈ AL := List.mem_append_right _ (List.mem_append_right _ (List.mem_append_right _ (List.mem_append_right _ (List.mem_append_left _ (show _ ∈ AL_4 from List.mem_of_getElem? (i := 36) rfl)))))
theorem al_197 : (.methodLink "WideStore" 117 yXA_size : Cond) ∈ AL := List.mem_append_right _ (List.mem_append_right _ (List.mem_append_right _ (List.mem_append_right _ (List.mem_append_left _ (show _ ∈ AL_4 from List.mem_of_getElem? (i := 37) rfl)))))
theorem al_198 : (.instanceMethod yXA_size : Cond) ∈ AL := List.mem_append_right _ (List.mem_append_right _ (List.mem_append_right _ (List.mem_append_right _ (List.mem_append_left _ (show _ ∈ AL_4 from List.mem_of_getElem? (i := 38) rfl)))))
theorem al_199 : (.selects "java/util/ArrayList" yXA_size yXA_size : Cond) ∈ AL := List.mem_append_right _ (List.mem_append_right _ (List.mem_append_right _ (List.mem_append_right _ (List.mem_append_left _ (show _ ∈ AL_4 from List.mem_of_getElem? (i := 39) rfl)))))
theorem al_200 : (.code yXA_size cXA_size 1 (some .int) : Cond) ∈ AL := List.mem_append_right _ (List.mem_append_right _ (List.mem_append_right _ (List.mem_append_right _ (List.mem_append_right _ (List.mem_append_left _ (show _ ∈ AL_5 from List.mem_of_getElem? (i := 0) rfl))))))
theorem al_201 : (.methodLink "WideStore" 133 yXS_newestAreOfOneTier : Cond) ∈ AL := List.mem_append_right _ (List.mem_append_right _ (List.mem_append_right _ (List.mem_append_right _ (List.mem_append_right _ (List.mem_append_left _ (show _ ∈ AL_5 from List.mem_of_getElem? (i := 1) rfl))))))
theorem al_202 : (.instanceMethod yXS_newestAreOfOneTier : Cond) ∈ AL := List.mem_append_right _ (List.mem_append_right _ (List.mem_append_right _ (List.mem_append_right _ (List.mem_append_right _ (List.mem_append_left _ (show _ ∈ AL_5 from List.mem_of_getElem? (i := 2) rfl))))))
theorem al_203 : (.code yXS_newestAreOfOneTier cXS_newestAreOfOneTier 4 (some .boolean) : Cond) ∈ AL := List.mem_append_right _ (List.mem_append_right _ (List.mem_append_right _ (List.mem_append_right _ (List.mem_append_right _ (List.mem_append_left _ (show _ ∈ AL_5 from List.mem_of_getElem? (i := 3) rfl))))))
theorem al_204 : (.methodLink "WideStore" 119 yXA_get : Cond) ∈ AL := List.mem_append_right _ (List.mem_append_right _ (List.mem_append_right _ (List.mem_append_right _ (List.mem_append_right _ (List.mem_append_left _ (show _ ∈ AL_5 from List.mem_of_getElem? (i := 4) rfl))))))
theorem al_205 : (.instanceMethod yXA_get : Cond) ∈ AL := List.mem_append_right _ (List.mem_append_right _ (List.mem_append_right _ (List.mem_append_right _ (List.mem_append_right _ (List.mem_append_left _ (show _ ∈ AL_5 from List.mem_of_getElem? (i := 5) rfl))))))
theorem al_206 : (.selects "java/util/ArrayList" yXA_get yXA_get : Cond) ∈ AL := List.mem_append_right _ (List.mem_append_right _ (List.mem_append_right _ (List.mem_append_right _ (List.mem_append_right _ (List.mem_append_left _ (show _ ∈ AL_5 from List.mem_of_getElem? (i := 6) rfl))))))
theorem al_207 : (.code yXA_get cXA_get 2 (some (.object "java/lang/Object")) : Cond) ∈ AL := List.mem_append_right _ (List.mem_append_right _ (List.mem_append_right _ (List.mem_append_right _ (List.mem_append_right _ (List.mem_append_left _ (show _ ∈ AL_5 from List.mem_of_getElem? (i := 7) rfl))))))
theorem al_208 : (.methodLink "java/util/ArrayList" 118 yXO_checkIndex : Cond) ∈ AL := List.mem_append_right _ (List.mem_append_right _ (List.mem_append_right _ (List.mem_append_right _ (List.mem_append_right _ (List.mem_append_left _ (show _ ∈ AL_5 from List.mem_of_getElem? (i := 8) rfl))))))
theorem al_209 : (.static yXO_checkIndex : Cond) ∈ AL := List.mem_append_right _ (List.mem_append_right _ (List.mem_append_right _ (List.mem_append_right _ (List.mem_append_right _ (List.mem_append_left _ (show _ ∈ AL_5 from List.mem_of_getElem? (i := 9) rfl))))))
theorem al_210 : (.code yXO_checkIndex cXO_checkIndex 2 (some .int) : Cond) ∈ AL := List.mem_append_right _ (List.mem_append_right _ (List.mem_append_right _ (List.mem_append_right _ (List.mem_append_right _ (List.mem_append_left _ (show _ ∈ AL_5 from List.mem_of_getElem? (i := 10) rfl))))))
theorem al_211 : (.methodLink "java/util/Objects" 105 yXP_checkIndex : Cond) ∈ AL := List.mem_append_right _ (List.mem_append_right _ (List.mem_append_right _ (List.mem_append_right _ (List.mem_append_right _ (List.mem_append_left _ (show _ ∈ AL_5 from List.mem_of_getElem? (i := 11) rfl))))))
theorem al_212 : (.static yXP_checkIndex : Cond) ∈ AL := List.mem_append_right _ (List.mem_append_right _ (List.mem_append_right _ (List.mem_append_right _ (List.mem_append_right _ (List.mem_append_left _ (show _ ∈ AL_5 from List.mem_of_getElem? (i := 12) rfl))))))
theorem al_213 : (.code yXP_checkIndex cXP_checkIndex 3 (some .int) : Cond) ∈ AL := List.mem_append_right _ (List.mem_append_right _ (List.mem_append_right _ (List.mem_append_right _ (List.mem_append_right _ (List.mem_append_left _ (show _ ∈ AL_5 from List.mem_of_getElem? (i := 13) rfl))))))
theorem al_214 : (.methodLink "java/util/ArrayList" 123 yXA_elementData : Cond) ∈ AL := List.mem_append_right _ (List.mem_append_right _ (List.mem_append_right _ (List.mem_append_right _ (List.mem_append_right _ (List.mem_append_left _ (show _ ∈ AL_5 from List.mem_of_getElem? (i := 14) rfl))))))
theorem al_215 : (.instanceMethod yXA_elementData : Cond) ∈ AL := List.mem_append_right _ (List.mem_append_right _ (List.mem_append_right _ (List.mem_append_right _ (List.mem_append_right _ (List.mem_append_left _ (show _ ∈ AL_5 from List.mem_of_getElem? (i := 15) rfl))))))
theorem al_216 : (.selects "java/util/ArrayList" yXA_elementData yXA_elementData : Cond) ∈ AL := List.mem_append_right _ (List.mem_append_right _ (List.mem_append_right _ (List.mem_append_right _ (List.mem_append_right _ (List.mem_append_left _ (show _ ∈ AL_5 from List.mem_of_getElem? (i := 16) rfl))))))
theorem al_217 : (.code yXA_elementData cXA_elementData 2 (some (.object "java/lang/Object")) : Cond) ∈ AL := List.mem_append_right _ (List.mem_append_right _ (List.mem_append_right _ (List.mem_append_right _ (List.mem_append_right _ (List.mem_append_left _ (show _ ∈ AL_5 from List.mem_of_getElem? (i := 17) rfl))))))
theorem al_218 : (.methodLink "WideStore" 106 yXS_mergeFrom : Cond) ∈ AL := List.mem_append_right _ (List.mem_append_right _ (List.mem_append_right _ (List.mem_append_right _ (List.mem_append_right _ (List.mem_append_left _ (show _ ∈ AL_5 from List.mem_of_getElem? (i := 18) rfl))))))
theorem al_219 : (.instanceMethod yXS_mergeFrom : Cond) ∈ AL := List.mem_append_right _ (List.mem_append_right _ (List.mem_append_right _ (List.mem_append_right _ (List.mem_append_right _ (List.mem_append_left _ (show _ ∈ AL_5 from List.mem_of_getElem? (i := 19) rfl))))))
theorem al_220 : (.code yXS_mergeFrom cXS_mergeFrom 5 (some (.object "WideStore$Table")) : Cond) ∈ AL := List.mem_append_right _ (List.mem_append_right _ (List.mem_append_right _ (List.mem_append_right _ (List.mem_append_right _ (List.mem_append_left _ (show _ ∈ AL_5 from List.mem_of_getElem? (i := 20) rfl))))))
theorem al_221 : (.methodLink "WideStore" 136 yXT_addWinners : Cond) ∈ AL := List.mem_append_right _ (List.mem_append_right _ (List.mem_append_right _ (List.mem_append_right _ (List.mem_append_right _ (List.mem_append_left _ (show _ ∈ AL_5 from List.mem_of_getElem? (i := 21) rfl))))))
theorem al_222 : (.instanceMethod yXT_addWinners : Cond) ∈ AL := List.mem_append_right _ (List.mem_append_right _ (List.mem_append_right _ (List.mem_append_right _ (List.mem_append_right _ (List.mem_append_left _ (show _ ∈ AL_5 from List.mem_of_getElem? (i := 22) rfl))))))
theorem al_223 : (.selects "WideStore$Table" yXT_addWinners yXT_addWinners : Cond) ∈ AL := List.mem_append_right _ (List.mem_append_right _ (List.mem_append_right _ (List.mem_append_right _ (List.mem_append_right _ (List.mem_append_left _ (show _ ∈ AL_5 from List.mem_of_getElem? (i := 23) rfl))))))
theorem al_224 : (.code yXT_addWinners cXT_addWinners 3 none : Cond) ∈ AL := List.mem_append_right _ (List.mem_append_right _ (List.mem_append_right _ (List.mem_append_right _ (List.mem_append_right _ (List.mem_append_left _ (show _ ∈ AL_5 from List.mem_of_getElem? (i := 24) rfl))))))
theorem al_225 : (.methodLink "WideStore$Table" 41 yXT_addWinner : Cond) ∈ AL := List.mem_append_right _ (List.mem_append_right _ (List.mem_append_right _ (List.mem_append_right _ (List.mem_append_right _ (List.mem_append_left _ (show _ ∈ AL_5 from List.mem_of_getElem? (i := 25) rfl))))))
theorem al_226 : (.methodLink "WideStore" 140 yXT_dropCovered : Cond) ∈ AL := List.mem_append_right _ (List.mem_append_right _ (List.mem_append_right _ (List.mem_append_right _ (List.mem_append_right _ (List.mem_append_left _ (show _ ∈ AL_5 from List.mem_of_getElem? (i := 26) rfl))))))
theorem al_227 : (.instanceMethod yXT_dropCovered : Cond) ∈ AL := List.mem_append_right _ (List.mem_append_right _ (List.mem_append_right _ (List.mem_append_right _ (List.mem_append_right _ (List.mem_append_left _ (show _ ∈ AL_5 from List.mem_of_getElem? (i := 27) rfl))))))
theorem al_228 : (.selects "WideStore$Table" yXT_dropCovered yXT_dropCovered : Cond) ∈ AL := List.mem_append_right _ (List.mem_append_right _ (List.mem_append_right _ (List.mem_append_right _ (List.mem_append_right _ (List.mem_append_left _ (show _ ∈ AL_5 from List.mem_of_getElem? (i := 28) rfl))))))
theorem al_229 : (.code yXT_dropCovered cXT_dropCovered 4 none : Cond) ∈ AL := List.mem_append_right _ (List.mem_append_right _ (List.mem_append_right _ (List.mem_append_right _ (List.mem_append_right _ (List.mem_append_left _ (show _ ∈ AL_5 from List.mem_of_getElem? (i := 29) rfl))))))
theorem al_230 : (.methodLink "WideStore$Table" 52 yXT_pointAt : Cond) ∈ AL := List.mem_append_right _ (List.mem_append_right _ (List.mem_append_right _ (List.mem_append_right _ (List.mem_append_right _ (List.mem_append_left _ (show _ ∈ AL_5 from List.mem_of_getElem? (i := 30) rfl))))))
theorem al_231 : (.instanceMethod yXT_pointAt : Cond) ∈ AL := List.mem_append_right _ (List.mem_append_right _ (List.mem_append_right _ (List.mem_append_right _ (List.mem_append_right _ (List.mem_append_left _ (show _ ∈ AL_5 from List.mem_of_getElem? (i := 31) rfl))))))
theorem al_232 : (.selects "WideStore$Table" yXT_pointAt yXT_pointAt : Cond) ∈ AL := List.mem_append_right _ (List.mem_append_right _ (List.mem_append_right _ (List.mem_append_right _ (List.mem_append_right _ (List.mem_append_left _ (show _ ∈ AL_5 from List.mem_of_getElem? (i := 32) rfl))))))
theorem al_233 : (.code yXT_pointAt cXT_pointAt 3 (some (.object "WideStore$Entry")) : Cond) ∈ AL := List.mem_append_right _ (List.mem_append_right _ (List.mem_append_right _ (List.mem_append_right _ (List.mem_append_right _ (List.mem_append_left _ (show _ ∈ AL_5 from List.mem_of_getElem? (i := 33) rfl))))))
theorem al_234 : (.methodLink "WideStore$Table" 56 yXT_covers : Cond) ∈ AL := List.mem_append_right _ (List.mem_append_right _ (List.mem_append_right _ (List.mem_append_right _ (List.mem_append_right _ (List.mem_append_left _ (show _ ∈ AL_5 from List.mem_of_getElem? (i := 34) rfl))))))
theorem al_235 : (.instanceMethod yXT_covers : Cond) ∈ AL := List.mem_append_right _ (List.mem_append_right _ (List.mem_append_right _ (List.mem_append_right _ (List.mem_append_right _ (List.mem_append_left _ (show _ ∈ AL_5 from List.mem_of_getElem? (i := 35) rfl))))))
theorem al_236 : (.selects "WideStore$Table" yXT_covers yXT_covers : Cond) ∈ AL := List.mem_append_right _ (List.mem_append_right _ (List.mem_append_right _ (List.mem_append_right _ (List.mem_append_right _ (List.mem_append_left _ (show _ ∈ AL_5 from List.mem_of_getElem? (i := 36) rfl))))))
theorem al_237 : (.code yXT_covers cXT_covers 7 (some .boolean) : Cond) ∈ AL := List.mem_append_right _ (List.mem_append_right _ (List.mem_append_right _ (List.mem_append_right _ (List.mem_append_right _ (List.mem_append_left _ (show _ ∈ AL_5 from List.mem_of_getElem? (i := 37) rfl))))))
theorem al_238 : (.static yXS_wipeSlot : Cond) ∈ AL := List.mem_append_right _ (List.mem_append_right _ (List.mem_append_right _ (List.mem_append_right _ (List.mem_append_right _ (List.mem_append_left _ (show _ ∈ AL_5 from List.mem_of_getElem? (i := 38) rfl))))))
theorem al_239 : (.code yXS_wipeSlot cXS_wipeSlot 3 (some .int) : Cond) ∈ AL := List.mem_append_right _ (List.mem_append_right _ (List.mem_append_right _ (List.mem_append_right _ (List.mem_append_right _ (List.mem_append_left _ (show _ ∈ AL_5 from List.mem_of_getElem? (i := 39) rfl))))))
theorem al_240 : (.methodLink "WideStore$Table" 60 yXT_dropEntry : Cond) ∈ AL := List.mem_append_right _ (List.mem_append_right _ (List.mem_append_right _ (List.mem_append_right _ (List.mem_append_right _ (List.mem_append_right _ (List.mem_append_left _ (show _ ∈ AL_6 from List.mem_of_getElem? (i := 0) rfl)))))))
theorem al_241 : (.instanceMethod yXT_dropEntry : Cond) ∈ AL := List.mem_append_right _ (List.mem_append_right _ (List.mem_append_right _ (List.mem_append_right _ (List.mem_append_right _ (List.mem_append_right _ (List.mem_append_left _ (show _ ∈ AL_6 from List.mem_of_getElem? (i := 1) rfl)))))))
theorem al_242 : (.code yXT_dropEntry cXT_dropEntry 2 none : Cond) ∈ AL := List.mem_append_right _ (List.mem_append_right _ (List.mem_append_right _ (List.mem_append_right _ (List.mem_append_right _ (List.mem_append_right _ (List.mem_append_left _ (show _ ∈ AL_6 from List.mem_of_getElem? (i := 2) rfl)))))))
theorem al_243 : (.methodLink "WideStore" 143 yXT_dropOld : Cond) ∈ AL := List.mem_append_right _ (List.mem_append_right _ (List.mem_append_right _ (List.mem_append_right _ (List.mem_append_right _ (List.mem_append_right _ (List.mem_append_left _ (show _ ∈ AL_6 from List.mem_of_getElem? (i := 3) rfl)))))))
theorem al_244 : (.instanceMethod yXT_dropOld : Cond) ∈ AL := List.mem_append_right _ (List.mem_append_right _ (List.mem_append_right _ (List.mem_append_right _ (List.mem_append_right _ (List.mem_append_right _ (List.mem_append_left _ (show _ ∈ AL_6 from List.mem_of_getElem? (i := 4) rfl)))))))
theorem al_245 : (.selects "WideStore$Table" yXT_dropOld yXT_dropOld : Cond) ∈ AL := List.mem_append_right _ (List.mem_append_right _ (List.mem_append_right _ (List.mem_append_right _ (List.mem_append_right _ (List.mem_append_right _ (List.mem_append_left _ (show _ ∈ AL_6 from List.mem_of_getElem? (i := 5) rfl)))))))
theorem al_246 : (.code yXT_dropOld cXT_dropOld 5 none : Cond) ∈ AL := List.mem_append_right _ (List.mem_append_right _ (List.mem_append_right _ (List.mem_append_right _ (List.mem_append_right _ (List.mem_append_right _ (List.mem_append_left _ (show _ ∈ AL_6 from List.mem_of_getElem? (i := 6) rfl)))))))
theorem al_247 : (.methodLink "WideStore" 147 yXA_remove : Cond) ∈ AL := List.mem_append_right _ (List.mem_append_right _ (List.mem_append_right _ (List.mem_append_right _ (List.mem_append_right _ (List.mem_append_right _ (List.mem_append_left _ (show _ ∈ AL_6 from List.mem_of_getElem? (i := 7) rfl)))))))
theorem al_248 : (.instanceMethod yXA_remove : Cond) ∈ AL := List.mem_append_right _ (List.mem_append_right _ (List.mem_append_right _ (List.mem_append_right _ (List.mem_append_right _ (List.mem_append_right _ (List.mem_append_left _ (show _ ∈ AL_6 from List.mem_of_getElem? (i := 8) rfl)))))))
theorem al_249 : (.selects "java/util/ArrayList" yXA_remove yXA_remove : Cond) ∈ AL := List.mem_append_right _ (List.mem_append_right _ (List.mem_append_right _ (List.mem_append_right _ (List.mem_append_right _ (List.mem_append_right _ (List.mem_append_left _ (show _ ∈ AL_6 from List.mem_of_getElem? (i := 9) rfl)))))))
theorem al_250 : (.code yXA_remove cXA_remove 4 (some (.object "java/lang/Object")) : Cond) ∈ AL := List.mem_append_right _ (List.mem_append_right _ (List.mem_append_right _ (List.mem_append_right _ (List.mem_append_right _ (List.mem_append_right _ (List.mem_append_left _ (show _ ∈ AL_6 from List.mem_of_getElem? (i := 10) rfl)))))))
theorem al_251 : (.methodLink "java/util/ArrayList" 144 yXA_fastRemove : Cond) ∈ AL := List.mem_append_right _ (List.mem_append_right _ (List.mem_append_right _ (List.mem_append_right _ (List.mem_append_right _ (List.mem_append_right _ (List.mem_append_left _ (show _ ∈ AL_6 from List.mem_of_getElem? (i := 11) rfl)))))))
theorem al_252 : (.instanceMethod yXA_fastRemove : Cond) ∈ AL := List.mem_append_right _ (List.mem_append_right _ (List.mem_append_right _ (List.mem_append_right _ (List.mem_append_right _ (List.mem_append_right _ (List.mem_append_left _ (show _ ∈ AL_6 from List.mem_of_getElem? (i := 12) rfl)))))))
theorem al_253 : (.code yXA_fastRemove cXA_fastRemove 4 none : Cond) ∈ AL := List.mem_append_right _ (List.mem_append_right _ (List.mem_append_right _ (List.mem_append_right _ (List.mem_append_right _ (List.mem_append_right _ (List.mem_append_left _ (show _ ∈ AL_6 from List.mem_of_getElem? (i := 13) rfl)))))))
theorem al_254 : (.methodLink "java/util/ArrayList" 112 arraycopyName : Cond) ∈ AL := List.mem_append_right _ (List.mem_append_right _ (List.mem_append_right _ (List.mem_append_right _ (List.mem_append_right _ (List.mem_append_right _ (List.mem_append_left _ (show _ ∈ AL_6 from List.mem_of_getElem? (i := 14) rfl)))))))
theorem al_255 : (.methodLink "WideStoreLaw" 26 yXS_delete : Cond) ∈ AL := List.mem_append_right _ (List.mem_append_right _ (List.mem_append_right _ (List.mem_append_right _ (List.mem_append_right _ (List.mem_append_right _ (List.mem_append_left _ (show _ ∈ AL_6 from List.mem_of_getElem? (i := 15) rfl)))))))
theorem al_256 : (.instanceMethod yXS_delete : Cond) ∈ AL := List.mem_append_right _ (List.mem_append_right _ (List.mem_append_right _ (List.mem_append_right _ (List.mem_append_right _ (List.mem_append_right _ (List.mem_append_left _ (show _ ∈ AL_6 from List.mem_of_getElem? (i := 16) rfl)))))))
theorem al_257 : (.selects "WideStore" yXS_delete yXS_delete : Cond) ∈ AL := List.mem_append_right _ (List.mem_append_right _ (List.mem_append_right _ (List.mem_append_right _ (List.mem_append_right _ (List.mem_append_right _ (List.mem_append_left _ (show _ ∈ AL_6 from List.mem_of_getElem? (i := 17) rfl)))))))
theorem al_258 : (.code yXS_delete cXS_delete 4 (some .boolean) : Cond) ∈ AL := List.mem_append_right _ (List.mem_append_right _ (List.mem_append_right _ (List.mem_append_right _ (List.mem_append_right _ (List.mem_append_right _ (List.mem_append_left _ (show _ ∈ AL_6 from List.mem_of_getElem? (i := 18) rfl)))))))
theorem al_259 : (.methodLink "WideStoreLaw" 31 yXS_wipe : Cond) ∈ AL := List.mem_append_right _ (List.mem_append_right _ (List.mem_append_right _ (List.mem_append_right _ (List.mem_append_right _ (List.mem_append_right _ (List.mem_append_left _ (show _ ∈ AL_6 from List.mem_of_getElem? (i := 19) rfl)))))))
theorem al_260 : (.instanceMethod yXS_wipe : Cond) ∈ AL := List.mem_append_right _ (List.mem_append_right _ (List.mem_append_right _ (List.mem_append_right _ (List.mem_append_right _ (List.mem_append_right _ (List.mem_append_left _ (show _ ∈ AL_6 from List.mem_of_getElem? (i := 20) rfl)))))))
theorem al_261 : (.selects "WideStore" yXS_wipe yXS_wipe : Cond) ∈ AL := List.mem_append_right _ (List.mem_append_right _ (List.mem_append_right _ (List.mem_append_right _ (List.mem_append_right _ (List.mem_append_right _ (List.mem_append_left _ (show _ ∈ AL_6 from List.mem_of_getElem? (i := 21) rfl)))))))
theorem al_262 : (.code yXS_wipe cXS_wipe 5 (some .boolean) : Cond) ∈ AL := List.mem_append_right _ (List.mem_append_right _ (List.mem_append_right _ (List.mem_append_right _ (List.mem_append_right _ (List.mem_append_right _ (List.mem_append_left _ (show _ ∈ AL_6 from List.mem_of_getElem? (i := 22) rfl)))))))
theorem al_263 : (.methodLink "WideStore" 75 yXS_wipeSlot : Cond) ∈ AL := List.mem_append_right _ (List.mem_append_right _ (List.mem_append_right _ (List.mem_append_right _ (List.mem_append_right _ (List.mem_append_right _ (List.mem_append_left _ (show _ ∈ AL_6 from List.mem_of_getElem? (i := 23) rfl)))))))
theorem al_264 : (.methodLink "WideStoreLaw" 36 yXS_get : Cond) ∈ AL := List.mem_append_right _ (List.mem_append_right _ (List.mem_append_right _ (List.mem_append_right _ (List.mem_append_right _ (List.mem_append_right _ (List.mem_append_left _ (show _ ∈ AL_6 from List.mem_of_getElem? (i := 24) rfl)))))))
theorem al_265 : (.instanceMethod yXS_get : Cond) ∈ AL := List.mem_append_right _ (List.mem_append_right _ (List.mem_append_right _ (List.mem_append_right _ (List.mem_append_right _ (List.mem_append_right _ (List.mem_append_left _ (show _ ∈ AL_6 from List.mem_of_getElem? (i := 25) rfl)))))))
theorem al_266 : (.selects "WideStore" yXS_get yXS_get : Cond) ∈ AL := List.mem_append_right _ (List.mem_append_right _ (List.mem_append_right _ (List.mem_append_right _ (List.mem_append_right _ (List.mem_append_right _ (List.mem_append_left _ (show _ ∈ AL_6 from List.mem_of_getElem? (i := 26) rfl)))))))
theorem al_267 : (.code yXS_get cXS_get 4 (some .int) : Cond) ∈ AL := List.mem_append_right _ (List.mem_append_right _ (List.mem_append_right _ (List.mem_append_right _ (List.mem_append_right _ (List.mem_append_right _ (List.mem_append_left _ (show _ ∈ AL_6 from List.mem_of_getElem? (i := 27) rfl)))))))
theorem al_268 : (.methodLink "WideStore" 79 yXS_seenCell : Cond) ∈ AL := List.mem_append_right _ (List.mem_append_right _ (List.mem_append_right _ (List.mem_append_right _ (List.mem_append_right _ (List.mem_append_right _ (List.mem_append_left _ (show _ ∈ AL_6 from List.mem_of_getElem? (i := 28) rfl)))))))
theorem al_269 : (.instanceMethod yXS_seenCell : Cond) ∈ AL := List.mem_append_right _ (List.mem_append_right _ (List.mem_append_right _ (List.mem_append_right _ (List.mem_append_right _ (List.mem_append_right _ (List.mem_append_left _ (show _ ∈ AL_6 from List.mem_of_getElem? (i := 29) rfl)))))))
theorem al_270 : (.code yXS_seenCell cXS_seenCell 4 (some (.object "WideStore$Entry")) : Cond) ∈ AL := List.mem_append_right _ (List.mem_append_right _ (List.mem_append_right _ (List.mem_append_right _ (List.mem_append_right _ (List.mem_append_right _ (List.mem_append_left _ (show _ ∈ AL_6 from List.mem_of_getElem? (i := 30) rfl)))))))
theorem al_271 : (.methodLink "WideStore" 150 yXS_winningPoint : Cond) ∈ AL := List.mem_append_right _ (List.mem_append_right _ (List.mem_append_right _ (List.mem_append_right _ (List.mem_append_right _ (List.mem_append_right _ (List.mem_append_left _ (show _ ∈ AL_6 from List.mem_of_getElem? (i := 31) rfl)))))))
theorem al_272 : (.instanceMethod yXS_winningPoint : Cond) ∈ AL := List.mem_append_right _ (List.mem_append_right _ (List.mem_append_right _ (List.mem_append_right _ (List.mem_append_right _ (List.mem_append_right _ (List.mem_append_left _ (show _ ∈ AL_6 from List.mem_of_getElem? (i := 32) rfl)))))))
theorem al_273 : (.code yXS_winningPoint cXS_winningPoint 6 (some (.object "WideStore$Entry")) : Cond) ∈ AL := List.mem_append_right _ (List.mem_append_right _ (List.mem_append_right _ (List.mem_append_right _ (List.mem_append_right _ (List.mem_append_right _ (List.mem_append_left _ (show _ ∈ AL_6 from List.mem_of_getElem? (i := 33) rfl)))))))
theorem al_274 : (.methodLink "WideStore" 163 yXT_pointAt : Cond) ∈ AL := List.mem_append_right _ (List.mem_append_right _ (List.mem_append_right _ (List.mem_append_right _ (List.mem_append_right _ (List.mem_append_right _ (List.mem_append_left _ (show _ ∈ AL_6 from List.mem_of_getElem? (i := 34) rfl)))))))
theorem al_275 : (.methodLink "WideStore" 166 yXE_winsOver : Cond) ∈ AL := List.mem_append_right _ (List.mem_append_right _ (List.mem_append_right _ (List.mem_append_right _ (List.mem_append_right _ (List.mem_append_right _ (List.mem_append_left _ (show _ ∈ AL_6 from List.mem_of_getElem? (i := 35) rfl)))))))
theorem al_276 : (.methodLink "WideStore" 159 yXS_isCovered : Cond) ∈ AL := List.mem_append_right _ (List.mem_append_right _ (List.mem_append_right _ (List.mem_append_right _ (List.mem_append_right _ (List.mem_append_right _ (List.mem_append_left _ (show _ ∈ AL_6 from List.mem_of_getElem? (i := 36) rfl)))))))
theorem al_277 : (.instanceMethod yXS_isCovered : Cond) ∈ AL := List.mem_append_right _ (List.mem_append_right _ (List.mem_append_right _ (List.mem_append_right _ (List.mem_append_right _ (List.mem_append_right _ (List.mem_append_left _ (show _ ∈ AL_6 from List.mem_of_getElem? (i := 37) rfl)))))))
theorem al_278 : (.code yXS_isCovered cXS_isCovered 5 (some .boolean) : Cond) ∈ AL := List.mem_append_right _ (List.mem_append_right _ (List.mem_append_right _ (List.mem_append_right _ (List.mem_append_right _ (List.mem_append_right _ (List.mem_append_left _ (show _ ∈ AL_6 from List.mem_of_getElem? (i := 38) rfl)))))))
theorem al_279 : (.methodLink "WideStore" 169 yXT_covers : Cond) ∈ AL := List.mem_append_right _ (List.mem_append_right _ (List.mem_append_right _ (List.mem_append_right _ (List.mem_append_right _ (List.mem_append_right _ (List.mem_append_left _ (show _ ∈ AL_6 from List.mem_of_getElem? (i := 39) rfl)))))))
theorem al_280 : (.methodLink "WideStoreLaw" 41 yXS_stamp : Cond) ∈ AL := List.mem_append_right _ (List.mem_append_right _ (List.mem_append_right _ (List.mem_append_right _ (List.mem_append_right _ (List.mem_append_right _ (List.mem_append_right _ (List.mem_append_left _ (show _ ∈ AL_7 from List.mem_of_getElem? (i := 0) rfl))))))))
theorem al_281 : (.instanceMethod yXS_stamp : Cond) ∈ AL := List.mem_append_right _ (List.mem_append_right _ (List.mem_append_right _ (List.mem_append_right _ (List.mem_append_right _ (List.mem_append_right _ (List.mem_append_right _ (List.mem_append_left _ (show _ ∈ AL_7 from List.mem_of_getElem? (i := 1) rfl))))))))
theorem al_282 : (.selects "WideStore" yXS_stamp yXS_stamp : Cond) ∈ AL := List.mem_append_right _ (List.mem_append_right _ (List.mem_append_right _ (List.mem_append_right _ (List.mem_append_right _ (List.mem_append_right _ (List.mem_append_right _ (List.mem_append_left _ (show _ ∈ AL_7 from List.mem_of_getElem? (i := 2) rfl))))))))
theorem al_283 : (.code yXS_stamp cXS_stamp 4 (some .int) : Cond) ∈ AL := List.mem_append_right _ (List.mem_append_right _ (List.mem_append_right _ (List.mem_append_right _ (List.mem_append_right _ (List.mem_append_right _ (List.mem_append_right _ (List.mem_append_left _ (show _ ∈ AL_7 from List.mem_of_getElem? (i := 3) rfl))))))))
theorem al_284 : (.methodLink "WideStoreLaw" 45 yXS_next : Cond) ∈ AL := List.mem_append_right _ (List.mem_append_right _ (List.mem_append_right _ (List.mem_append_right _ (List.mem_append_right _ (List.mem_append_right _ (List.mem_append_right _ (List.mem_append_left _ (show _ ∈ AL_7 from List.mem_of_getElem? (i := 4) rfl))))))))
theorem al_285 : (.instanceMethod yXS_next : Cond) ∈ AL := List.mem_append_right _ (List.mem_append_right _ (List.mem_append_right _ (List.mem_append_right _ (List.mem_append_right _ (List.mem_append_right _ (List.mem_append_right _ (List.mem_append_left _ (show _ ∈ AL_7 from List.mem_of_getElem? (i := 5) rfl))))))))
theorem al_286 : (.selects "WideStore" yXS_next yXS_next : Cond) ∈ AL := List.mem_append_right _ (List.mem_append_right _ (List.mem_append_right _ (List.mem_append_right _ (List.mem_append_right _ (List.mem_append_right _ (List.mem_append_right _ (List.mem_append_left _ (show _ ∈ AL_7 from List.mem_of_getElem? (i := 6) rfl))))))))
theorem al_287 : (.code yXS_next cXS_next 4 (some .int) : Cond) ∈ AL := List.mem_append_right _ (List.mem_append_right _ (List.mem_append_right _ (List.mem_append_right _ (List.mem_append_right _ (List.mem_append_right _ (List.mem_append_right _ (List.mem_append_left _ (show _ ∈ AL_7 from List.mem_of_getElem? (i := 7) rfl))))))))
theorem al_288 : (.methodLink "WideStoreLaw" 49 yXS_nextRow : Cond) ∈ AL := List.mem_append_right _ (List.mem_append_right _ (List.mem_append_right _ (List.mem_append_right _ (List.mem_append_right _ (List.mem_append_right _ (List.mem_append_right _ (List.mem_append_left _ (show _ ∈ AL_7 from List.mem_of_getElem? (i := 8) rfl))))))))
theorem al_289 : (.instanceMethod yXS_nextRow : Cond) ∈ AL := List.mem_append_right _ (List.mem_append_right _ (List.mem_append_right _ (List.mem_append_right _ (List.mem_append_right _ (List.mem_append_right _ (List.mem_append_right _ (List.mem_append_left _ (show _ ∈ AL_7 from List.mem_of_getElem? (i := 9) rfl))))))))
theorem al_290 : (.selects "WideStore" yXS_nextRow yXS_nextRow : Cond) ∈ AL := List.mem_append_right _ (List.mem_append_right _ (List.mem_append_right _ (List.mem_append_right _ (List.mem_append_right _ (List.mem_append_right _ (List.mem_append_right _ (List.mem_append_left _ (show _ ∈ AL_7 from List.mem_of_getElem? (i := 10) rfl))))))))
theorem al_291 : (.code yXS_nextRow cXS_nextRow 3 (some .int) : Cond) ∈ AL := List.mem_append_right _ (List.mem_append_right _ (List.mem_append_right _ (List.mem_append_right _ (List.mem_append_right _ (List.mem_append_right _ (List.mem_append_right _ (List.mem_append_left _ (show _ ∈ AL_7 from List.mem_of_getElem? (i := 11) rfl))))))))
theorem al_292 : (.methodLink "WideStore" 89 yXS_next : Cond) ∈ AL := List.mem_append_right _ (List.mem_append_right _ (List.mem_append_right _ (List.mem_append_right _ (List.mem_append_right _ (List.mem_append_right _ (List.mem_append_right _ (List.mem_append_left _ (show _ ∈ AL_7 from List.mem_of_getElem? (i := 12) rfl))))))))
theorem al_293 : (.methodLink "WideStoreLaw" 54 yXS_flush : Cond) ∈ AL := List.mem_append_right _ (List.mem_append_right _ (List.mem_append_right _ (List.mem_append_right _ (List.mem_append_right _ (List.mem_append_right _ (List.mem_append_right _ (List.mem_append_left _ (show _ ∈ AL_7 from List.mem_of_getElem? (i := 13) rfl))))))))
theorem al_294 : (.instanceMethod yXS_flush : Cond) ∈ AL := List.mem_append_right _ (List.mem_append_right _ (List.mem_append_right _ (List.mem_append_right _ (List.mem_append_right _ (List.mem_append_right _ (List.mem_append_right _ (List.mem_append_left _ (show _ ∈ AL_7 from List.mem_of_getElem? (i := 14) rfl))))))))
theorem al_295 : (.selects "WideStore" yXS_flush yXS_flush : Cond) ∈ AL := List.mem_append_right _ (List.mem_append_right _ (List.mem_append_right _ (List.mem_append_right _ (List.mem_append_right _ (List.mem_append_right _ (List.mem_append_right _ (List.mem_append_left _ (show _ ∈ AL_7 from List.mem_of_getElem? (i := 15) rfl))))))))
theorem al_296 : (.code yXS_flush cXS_flush 2 (some .int) : Cond) ∈ AL := List.mem_append_right _ (List.mem_append_right _ (List.mem_append_right _ (List.mem_append_right _ (List.mem_append_right _ (List.mem_append_right _ (List.mem_append_right _ (List.mem_append_left _ (show _ ∈ AL_7 from List.mem_of_getElem? (i := 16) rfl))))))))
theorem al_297 : (.methodLink "WideStoreLaw" 59 yXS_merge : Cond) ∈ AL := List.mem_append_right _ (List.mem_append_right _ (List.mem_append_right _ (List.mem_append_right _ (List.mem_append_right _ (List.mem_append_right _ (List.mem_append_right _ (List.mem_append_left _ (show _ ∈ AL_7 from List.mem_of_getElem? (i := 17) rfl))))))))
theorem al_298 : (.instanceMethod yXS_merge : Cond) ∈ AL := List.mem_append_right _ (List.mem_append_right _ (List.mem_append_right _ (List.mem_append_right _ (List.mem_append_right _ (List.mem_append_right _ (List.mem_append_right _ (List.mem_append_left _ (show _ ∈ AL_7 from List.mem_of_getElem? (i := 18) rfl))))))))
theorem al_299 : (.selects "WideStore" yXS_merge yXS_merge : Cond) ∈ AL := List.mem_append_right _ (List.mem_append_right _ (List.mem_append_right _ (List.mem_append_right _ (List.mem_append_right _ (List.mem_append_right _ (List.mem_append_right _ (List.mem_append_left _ (show _ ∈ AL_7 from List.mem_of_getElem? (i := 19) rfl))))))))
theorem al_300 : (.code yXS_merge cXS_merge 1 (some .int) : Cond) ∈ AL := List.mem_append_right _ (List.mem_append_right _ (List.mem_append_right _ (List.mem_append_right _ (List.mem_append_right _ (List.mem_append_right _ (List.mem_append_right _ (List.mem_append_left _ (show _ ∈ AL_7 from List.mem_of_getElem? (i := 20) rfl))))))))
theorem al_301 : (.methodLink "WideStore" 98 yXA_isEmpty : Cond) ∈ AL := List.mem_append_right _ (List.mem_append_right _ (List.mem_append_right _ (List.mem_append_right _ (List.mem_append_right _ (List.mem_append_right _ (List.mem_append_right _ (List.mem_append_left _ (show _ ∈ AL_7 from List.mem_of_getElem? (i := 21) rfl))))))))
theorem al_302 : (.instanceMethod yXA_isEmpty : Cond) ∈ AL := List.mem_append_right _ (List.mem_append_right _ (List.mem_append_right _ (List.mem_append_right _ (List.mem_append_right _ (List.mem_append_right _ (List.mem_append_right _ (List.mem_append_left _ (show _ ∈ AL_7 from List.mem_of_getElem? (i := 22) rfl))))))))
theorem al_303 : (.selects "java/util/ArrayList" yXA_isEmpty yXA_isEmpty : Cond) ∈ AL := List.mem_append_right _ (List.mem_append_right _ (List.mem_append_right _ (List.mem_append_right _ (List.mem_append_right _ (List.mem_append_right _ (List.mem_append_right _ (List.mem_append_left _ (show _ ∈ AL_7 from List.mem_of_getElem? (i := 23) rfl))))))))
theorem al_304 : (.code yXA_isEmpty cXA_isEmpty 1 (some .boolean) : Cond) ∈ AL := List.mem_append_right _ (List.mem_append_right _ (List.mem_append_right _ (List.mem_append_right _ (List.mem_append_right _ (List.mem_append_right _ (List.mem_append_right _ (List.mem_append_left _ (show _ ∈ AL_7 from List.mem_of_getElem? (i := 24) rfl))))))))
theorem al_305 : (.methodLink "WideStore" 102 yXS_greatestTier : Cond) ∈ AL := List.mem_append_right _ (List.mem_append_right _ (List.mem_append_right _ (List.mem_append_right _ (List.mem_append_right _ (List.mem_append_right _ (List.mem_append_right _ (List.mem_append_left _ (show _ ∈ AL_7 from List.mem_of_getElem? (i := 25) rfl))))))))
theorem al_306 : (.instanceMethod yXS_greatestTier : Cond) ∈ AL := List.mem_append_right _ (List.mem_append_right _ (List.mem_append_right _ (List.mem_append_right _ (List.mem_append_right _ (List.mem_append_right _ (List.mem_append_right _ (List.mem_append_left _ (show _ ∈ AL_7 from List.mem_of_getElem? (i := 26) rfl))))))))
theorem al_307 : (.code yXS_greatestTier cXS_greatestTier 3 (some .int) : Cond) ∈ AL := List.mem_append_right _ (List.mem_append_right _ (List.mem_append_right _ (List.mem_append_right _ (List.mem_append_right _ (List.mem_append_right _ (List.mem_append_right _ (List.mem_append_left _ (show _ ∈ AL_7 from List.mem_of_getElem? (i := 27) rfl))))))))
theorem al_308 : (.methodLink "WideStoreLaw" 63 yXS_sync : Cond) ∈ AL := List.mem_append_right _ (List.mem_append_right _ (List.mem_append_right _ (List.mem_append_right _ (List.mem_append_right _ (List.mem_append_right _ (List.mem_append_right _ (List.mem_append_left _ (show _ ∈ AL_7 from List.mem_of_getElem? (i := 28) rfl))))))))
theorem al_309 : (.instanceMethod yXS_sync : Cond) ∈ AL := List.mem_append_right _ (List.mem_append_right _ (List.mem_append_right _ (List.mem_append_right _ (List.mem_append_right _ (List.mem_append_right _ (List.mem_append_right _ (List.mem_append_left _ (show _ ∈ AL_7 from List.mem_of_getElem? (i := 29) rfl))))))))
theorem al_310 : (.selects "WideStore" yXS_sync yXS_sync : Cond) ∈ AL := List.mem_append_right _ (List.mem_append_right _ (List.mem_append_right _ (List.mem_append_right _ (List.mem_append_right _ (List.mem_append_right _ (List.mem_append_right _ (List.mem_append_left _ (show _ ∈ AL_7 from List.mem_of_getElem? (i := 30) rfl))))))))
theorem al_311 : (.code yXS_sync cXS_sync 1 (some .int) : Cond) ∈ AL := List.mem_append_right _ (List.mem_append_right _ (List.mem_append_right _ (List.mem_append_right _ (List.mem_append_right _ (List.mem_append_right _ (List.mem_append_right _ (List.mem_append_left _ (show _ ∈ AL_7 from List.mem_of_getElem? (i := 31) rfl))))))))
theorem al_312 : (.methodLink "WideStoreLaw" 67 yXS_crash : Cond) ∈ AL := List.mem_append_right _ (List.mem_append_right _ (List.mem_append_right _ (List.mem_append_right _ (List.mem_append_right _ (List.mem_append_right _ (List.mem_append_right _ (List.mem_append_left _ (show _ ∈ AL_7 from List.mem_of_getElem? (i := 32) rfl))))))))
theorem al_313 : (.instanceMethod yXS_crash : Cond) ∈ AL := List.mem_append_right _ (List.mem_append_right _ (List.mem_append_right _ (List.mem_append_right _ (List.mem_append_right _ (List.mem_append_right _ (List.mem_append_right _ (List.mem_append_left _ (show _ ∈ AL_7 from List.mem_of_getElem? (i := 33) rfl))))))))
theorem al_314 : (.selects "WideStore" yXS_crash yXS_crash : Cond) ∈ AL := List.mem_append_right _ (List.mem_append_right _ (List.mem_append_right _ (List.mem_append_right _ (List.mem_append_right _ (List.mem_append_right _ (List.mem_append_right _ (List.mem_append_left _ (show _ ∈ AL_7 from List.mem_of_getElem? (i := 34) rfl))))))))
theorem al_315 : (.code yXS_crash cXS_crash 2 (some .int) : Cond) ∈ AL := List.mem_append_right _ (List.mem_append_right _ (List.mem_append_right _ (List.mem_append_right _ (List.mem_append_right _ (List.mem_append_right _ (List.mem_append_right _ (List.mem_append_left _ (show _ ∈ AL_7 from List.mem_of_getElem? (i := 35) rfl))))))))
theorem al_316 : (.methodLink "WideStore" 110 yXT_clearSlots : Cond) ∈ AL := List.mem_append_right _ (List.mem_append_right _ (List.mem_append_right _ (List.mem_append_right _ (List.mem_append_right _ (List.mem_append_right _ (List.mem_append_right _ (List.mem_append_left _ (show _ ∈ AL_7 from List.mem_of_getElem? (i := 36) rfl))))))))
theorem al_317 : (.instanceMethod yXT_clearSlots : Cond) ∈ AL := List.mem_append_right _ (List.mem_append_right _ (List.mem_append_right _ (List.mem_append_right _ (List.mem_append_right _ (List.mem_append_right _ (List.mem_append_right _ (List.mem_append_left _ (show _ ∈ AL_7 from List.mem_of_getElem? (i := 37) rfl))))))))
theorem al_318 : (.selects "WideStore$Table" yXT_clearSlots yXT_clearSlots : Cond) ∈ AL := List.mem_append_right _ (List.mem_append_right _ (List.mem_append_right _ (List.mem_append_right _ (List.mem_append_right _ (List.mem_append_right _ (List.mem_append_right _ (List.mem_append_left _ (show _ ∈ AL_7 from List.mem_of_getElem? (i := 38) rfl))))))))
theorem al_319 : (.code yXT_clearSlots cXT_clearSlots 2 none : Cond) ∈ AL := List.mem_append_right _ (List.mem_append_right _ (List.mem_append_right _ (List.mem_append_right _ (List.mem_append_right _ (List.mem_append_right _ (List.mem_append_right _ (List.mem_append_left _ (show _ ∈ AL_7 from List.mem_of_getElem? (i := 39) rfl))))))))
theorem al_320 : (.methodLink "WideStoreLaw" 71 yXS_tick : Cond) ∈ AL := List.mem_append_right _ (List.mem_append_right _ (List.mem_append_right _ (List.mem_append_right _ (List.mem_append_right _ (List.mem_append_right _ (List.mem_append_right _ (List.mem_append_right _ (List.mem_append_left _ (show _ ∈ AL_8 from List.mem_of_getElem? (i := 0) rfl)))))))))
theorem al_321 : (.instanceMethod yXS_tick : Cond) ∈ AL := List.mem_append_right _ (List.mem_append_right _ (List.mem_append_right _ (List.mem_append_right _ (List.mem_append_right _ (List.mem_append_right _ (List.mem_append_right _ (List.mem_append_right _ (List.mem_append_left _ (show _ ∈ AL_8 from List.mem_of_getElem? (i := 1) rfl)))))))))
theorem al_322 : (.selects "WideStore" yXS_tick yXS_tick : Cond) ∈ AL := List.mem_append_right _ (List.mem_append_right _ (List.mem_append_right _ (List.mem_append_right _ (List.mem_append_right _ (List.mem_append_right _ (List.mem_append_right _ (List.mem_append_right _ (List.mem_append_left _ (show _ ∈ AL_8 from List.mem_of_getElem? (i := 2) rfl)))))))))
theorem al_323 : (.code yXS_tick cXS_tick 2 (some .int) : Cond) ∈ AL := List.mem_append_right _ (List.mem_append_right _ (List.mem_append_right _ (List.mem_append_right _ (List.mem_append_right _ (List.mem_append_right _ (List.mem_append_right _ (List.mem_append_right _ (List.mem_append_left _ (show _ ∈ AL_8 from List.mem_of_getElem? (i := 3) rfl)))))))))
theorem al_324 : (.methodLink "WideStoreLaw" 75 yXS_count : Cond) ∈ AL := List.mem_append_right _ (List.mem_append_right _ (List.mem_append_right _ (List.mem_append_right _ (List.mem_append_right _ (List.mem_append_right _ (List.mem_append_right _ (List.mem_append_right _ (List.mem_append_left _ (show _ ∈ AL_8 from List.mem_of_getElem? (i := 4) rfl)))))))))
theorem al_325 : (.instanceMethod yXS_count : Cond) ∈ AL := List.mem_append_right _ (List.mem_append_right _ (List.mem_append_right _ (List.mem_append_right _ (List.mem_append_right _ (List.mem_append_right _ (List.mem_append_right _ (List.mem_append_right _ (List.mem_append_left _ (show _ ∈ AL_8 from List.mem_of_getElem? (i := 5) rfl)))))))))
theorem al_326 : (.selects "WideStore" yXS_count yXS_count : Cond) ∈ AL := List.mem_append_right _ (List.mem_append_right _ (List.mem_append_right _ (List.mem_append_right _ (List.mem_append_right _ (List.mem_append_right _ (List.mem_append_right _ (List.mem_append_right _ (List.mem_append_left _ (show _ ∈ AL_8 from List.mem_of_getElem? (i := 6) rfl)))))))))
theorem al_327 : (.code yXS_count cXS_count 2 (some .int) : Cond) ∈ AL := List.mem_append_right _ (List.mem_append_right _ (List.mem_append_right _ (List.mem_append_right _ (List.mem_append_right _ (List.mem_append_right _ (List.mem_append_right _ (List.mem_append_right _ (List.mem_append_left _ (show _ ∈ AL_8 from List.mem_of_getElem? (i := 7) rfl)))))))))
theorem al_328 : (.methodLink "WideStoreLaw" 79 yXS_run : Cond) ∈ AL := List.mem_append_right _ (List.mem_append_right _ (List.mem_append_right _ (List.mem_append_right _ (List.mem_append_right _ (List.mem_append_right _ (List.mem_append_right _ (List.mem_append_right _ (List.mem_append_left _ (show _ ∈ AL_8 from List.mem_of_getElem? (i := 8) rfl)))))))))
theorem al_329 : (.instanceMethod yXS_run : Cond) ∈ AL := List.mem_append_right _ (List.mem_append_right _ (List.mem_append_right _ (List.mem_append_right _ (List.mem_append_right _ (List.mem_append_right _ (List.mem_append_right _ (List.mem_append_right _ (List.mem_append_left _ (show _ ∈ AL_8 from List.mem_of_getElem? (i := 9) rfl)))))))))
theorem al_330 : (.selects "WideStore" yXS_run yXS_run : Cond) ∈ AL := List.mem_append_right _ (List.mem_append_right _ (List.mem_append_right _ (List.mem_append_right _ (List.mem_append_right _ (List.mem_append_right _ (List.mem_append_right _ (List.mem_append_right _ (List.mem_append_left _ (show _ ∈ AL_8 from List.mem_of_getElem? (i := 10) rfl)))))))))
theorem al_331 : (.code yXS_run cXS_run 4 (some .int) : Cond) ∈ AL := List.mem_append_right _ (List.mem_append_right _ (List.mem_append_right _ (List.mem_append_right _ (List.mem_append_right _ (List.mem_append_right _ (List.mem_append_right _ (List.mem_append_right _ (List.mem_append_left _ (show _ ∈ AL_8 from List.mem_of_getElem? (i := 11) rfl)))))))))
theorem al_332 : (.methodLink "WideStoreLaw" 9 yXL_cell : Cond) ∈ AL := List.mem_append_right _ (List.mem_append_right _ (List.mem_append_right _ (List.mem_append_right _ (List.mem_append_right _ (List.mem_append_right _ (List.mem_append_right _ (List.mem_append_right _ (List.mem_append_left _ (show _ ∈ AL_8 from List.mem_of_getElem? (i := 12) rfl)))))))))
theorem al_333 : (.static yXL_cell : Cond) ∈ AL := List.mem_append_right _ (List.mem_append_right _ (List.mem_append_right _ (List.mem_append_right _ (List.mem_append_right _ (List.mem_append_right _ (List.mem_append_right _ (List.mem_append_right _ (List.mem_append_left _ (show _ ∈ AL_8 from List.mem_of_getElem? (i := 13) rfl)))))))))
theorem al_334 : (.code yXL_cell cXL_cell 2 (some .int) : Cond) ∈ AL := List.mem_append_right _ (List.mem_append_right _ (List.mem_append_right _ (List.mem_append_right _ (List.mem_append_right _ (List.mem_append_right _ (List.mem_append_right _ (List.mem_append_right _ (List.mem_append_left _ (show _ ∈ AL_8 from List.mem_of_getElem? (i := 14) rfl)))))))))
theorem al_335 : (.classLink "WideStoreLaw" 18 "WideStoreModel" : Cond) ∈ AL := List.mem_append_right _ (List.mem_append_right _ (List.mem_append_right _ (List.mem_append_right _ (List.mem_append_right _ (List.mem_append_right _ (List.mem_append_right _ (List.mem_append_right _ (List.mem_append_left _ (show _ ∈ AL_8 from List.mem_of_getElem? (i := 15) rfl)))))))))
theorem al_336 : (.instantiable "WideStoreModel" 16 : Cond) ∈ AL := List.mem_append_right _ (List.mem_append_right _ (List.mem_append_right _ (List.mem_append_right _ (List.mem_append_right _ (List.mem_append_right _ (List.mem_append_right _ (List.mem_append_right _ (List.mem_append_left _ (show _ ∈ AL_8 from List.mem_of_getElem? (i := 16) rfl)))))))))
theorem al_337 : (.methodLink "WideStoreLaw" 20 yXM_init : Cond) ∈ AL := List.mem_append_right _ (List.mem_append_right _ (List.mem_append_right _ (List.mem_append_right _ (List.mem_append_right _ (List.mem_append_right _ (List.mem_append_right _ (List.mem_append_right _ (List.mem_append_left _ (show _ ∈ AL_8 from List.mem_of_getElem? (i := 17) rfl)))))))))
theorem al_338 : (.instanceMethod yXM_init : Cond) ∈ AL := List.mem_append_right _ (List.mem_append_right _ (List.mem_append_right _ (List.mem_append_right _ (List.mem_append_right _ (List.mem_append_right _ (List.mem_append_right _ (List.mem_append_right _ (List.mem_append_left _ (show _ ∈ AL_8 from List.mem_of_getElem? (i := 18) rfl)))))))))
theorem al_339 : (.code yXM_init cXM_init 3 none : Cond) ∈ AL := List.mem_append_right _ (List.mem_append_right _ (List.mem_append_right _ (List.mem_append_right _ (List.mem_append_right _ (List.mem_append_right _ (List.mem_append_right _ (List.mem_append_right _ (List.mem_append_left _ (show _ ∈ AL_8 from List.mem_of_getElem? (i := 19) rfl)))))))))
theorem al_340 : (.methodLink "WideStoreModel" 1 objectInit : Cond) ∈ AL := List.mem_append_right _ (List.mem_append_right _ (List.mem_append_right _ (List.mem_append_right _ (List.mem_append_right _ (List.mem_append_right _ (List.mem_append_right _ (List.mem_append_right _ (List.mem_append_left _ (show _ ∈ AL_8 from List.mem_of_getElem? (i := 20) rfl)))))))))
theorem al_341 : (.fieldLink "WideStoreModel" 31 "WideStoreModel" "cap" "I" : Cond) ∈ AL := List.mem_append_right _ (List.mem_append_right _ (List.mem_append_right _ (List.mem_append_right _ (List.mem_append_right _ (List.mem_append_right _ (List.mem_append_right _ (List.mem_append_right _ (List.mem_append_left _ (show _ ∈ AL_8 from List.mem_of_getElem? (i := 21) rfl)))))))))
theorem al_342 : (.fieldLink "WideStoreModel" 35 "WideStoreModel" "grace" "I" : Cond) ∈ AL := List.mem_append_right _ (List.mem_append_right _ (List.mem_append_right _ (List.mem_append_right _ (List.mem_append_right _ (List.mem_append_right _ (List.mem_append_right _ (List.mem_append_right _ (List.mem_append_left _ (show _ ∈ AL_8 from List.mem_of_getElem? (i := 22) rfl)))))))))
theorem al_343 : (.fieldLink "WideStoreModel" 75 "WideStoreModel" "now" "I" : Cond) ∈ AL := List.mem_append_right _ (List.mem_append_right _ (List.mem_append_right _ (List.mem_append_right _ (List.mem_append_right _ (List.mem_append_right _ (List.mem_append_right _ (List.mem_append_right _ (List.mem_append_left _ (show _ ∈ AL_8 from List.mem_of_getElem? (i := 23) rfl)))))))))
theorem al_344 : (.fieldLink "WideStoreModel" 42 "WideStoreModel" "memories" "I" : Cond) ∈ AL := List.mem_append_right _ (List.mem_append_right _ (List.mem_append_right _ (List.mem_append_right _ (List.mem_append_right _ (List.mem_append_right _ (List.mem_append_right _ (List.mem_append_right _ (List.mem_append_left _ (show _ ∈ AL_8 from List.mem_of_getElem? (i := 24) rfl)))))))))
theorem al_345 : (.fieldLink "WideStoreModel" 7 "WideStoreModel" "memory" "[I" : Cond) ∈ AL := List.mem_append_right _ (List.mem_append_right _ (List.mem_append_right _ (List.mem_append_right _ (List.mem_append_right _ (List.mem_append_right _ (List.mem_append_right _ (List.mem_append_right _ (List.mem_append_left _ (show _ ∈ AL_8 from List.mem_of_getElem? (i := 25) rfl)))))))))
theorem al_346 : (.fieldLink "WideStoreModel" 56 "WideStoreModel" "logs" "I" : Cond) ∈ AL := List.mem_append_right _ (List.mem_append_right _ (List.mem_append_right _ (List.mem_append_right _ (List.mem_append_right _ (List.mem_append_right _ (List.mem_append_right _ (List.mem_append_right _ (List.mem_append_left _ (show _ ∈ AL_8 from List.mem_of_getElem? (i := 26) rfl)))))))))
theorem al_347 : (.fieldLink "WideStoreModel" 91 "WideStoreModel" "safe" "I" : Cond) ∈ AL := List.mem_append_right _ (List.mem_append_right _ (List.mem_append_right _ (List.mem_append_right _ (List.mem_append_right _ (List.mem_append_right _ (List.mem_append_right _ (List.mem_append_right _ (List.mem_append_left _ (show _ ∈ AL_8 from List.mem_of_getElem? (i := 27) rfl)))))))))
theorem al_348 : (.fieldLink "WideStoreModel" 13 "WideStoreModel" "log" "[I" : Cond) ∈ AL := List.mem_append_right _ (List.mem_append_right _ (List.mem_append_right _ (List.mem_append_right _ (List.mem_append_right _ (List.mem_append_right _ (List.mem_append_right _ (List.mem_append_right _ (List.mem_append_left _ (show _ ∈ AL_8 from List.mem_of_getElem? (i := 28) rfl)))))))))
theorem al_349 : (.fieldLink "WideStoreModel" 85 "WideStoreModel" "flushed" "I" : Cond) ∈ AL := List.mem_append_right _ (List.mem_append_right _ (List.mem_append_right _ (List.mem_append_right _ (List.mem_append_right _ (List.mem_append_right _ (List.mem_append_right _ (List.mem_append_right _ (List.mem_append_left _ (show _ ∈ AL_8 from List.mem_of_getElem? (i := 29) rfl)))))))))
theorem al_350 : (.fieldLink "WideStoreModel" 16 "WideStoreModel" "entry" "[I" : Cond) ∈ AL := List.mem_append_right _ (List.mem_append_right _ (List.mem_append_right _ (List.mem_append_right _ (List.mem_append_right _ (List.mem_append_right _ (List.mem_append_right _ (List.mem_append_right _ (List.mem_append_left _ (show _ ∈ AL_8 from List.mem_of_getElem? (i := 30) rfl)))))))))
theorem al_351 : (.fieldLink "WideStoreModel" 19 "WideStoreModel" "runOf" "[I" : Cond) ∈ AL := List.mem_append_right _ (List.mem_append_right _ (List.mem_append_right _ (List.mem_append_right _ (List.mem_append_right _ (List.mem_append_right _ (List.mem_append_right _ (List.mem_append_right _ (List.mem_append_left _ (show _ ∈ AL_8 from List.mem_of_getElem? (i := 31) rfl)))))))))
theorem al_352 : (.fieldLink "WideStoreModel" 88 "WideStoreModel" "runs" "I" : Cond) ∈ AL := List.mem_append_right _ (List.mem_append_right _ (List.mem_append_right _ (List.mem_append_right _ (List.mem_append_right _ (List.mem_append_right _ (List.mem_append_right _ (List.mem_append_right _ (List.mem_append_left _ (show _ ∈ AL_8 from List.mem_of_getElem? (i := 32) rfl)))))))))
theorem al_353 : (.fieldLink "WideStoreModel" 82 "WideStoreModel" "marks" "I" : Cond) ∈ AL := List.mem_append_right _ (List.mem_append_right _ (List.mem_append_right _ (List.mem_append_right _ (List.mem_append_right _ (List.mem_append_right _ (List.mem_append_right _ (List.mem_append_right _ (List.mem_append_left _ (show _ ∈ AL_8 from List.mem_of_getElem? (i := 33) rfl)))))))))
theorem al_354 : (.fieldLink "WideStoreModel" 22 "WideStoreModel" "mark" "[I" : Cond) ∈ AL := List.mem_append_right _ (List.mem_append_right _ (List.mem_append_right _ (List.mem_append_right _ (List.mem_append_right _ (List.mem_append_right _ (List.mem_append_right _ (List.mem_append_right _ (List.mem_append_left _ (show _ ∈ AL_8 from List.mem_of_getElem? (i := 34) rfl)))))))))
theorem al_355 : (.fieldLink "WideStoreModel" 25 "WideStoreModel" "tier" "[I" : Cond) ∈ AL := List.mem_append_right _ (List.mem_append_right _ (List.mem_append_right _ (List.mem_append_right _ (List.mem_append_right _ (List.mem_append_right _ (List.mem_append_right _ (List.mem_append_right _ (List.mem_append_left _ (show _ ∈ AL_8 from List.mem_of_getElem? (i := 35) rfl)))))))))
theorem al_356 : (.fieldLink "WideStoreModel" 28 "WideStoreModel" "cell" "[I" : Cond) ∈ AL := List.mem_append_right _ (List.mem_append_right _ (List.mem_append_right _ (List.mem_append_right _ (List.mem_append_right _ (List.mem_append_right _ (List.mem_append_right _ (List.mem_append_right _ (List.mem_append_left _ (show _ ∈ AL_8 from List.mem_of_getElem? (i := 36) rfl)))))))))
theorem al_357 : (.laysFinal "WideStoreModel" "WideStoreModel" "cap" "I" : Cond) ∈ AL := List.mem_append_right _ (List.mem_append_right _ (List.mem_append_right _ (List.mem_append_right _ (List.mem_append_right _ (List.mem_append_right _ (List.mem_append_right _ (List.mem_append_right _ (List.mem_append_left _ (show _ ∈ AL_8 from List.mem_of_getElem? (i := 37) rfl)))))))))
theorem al_358 : (.laysFinal "WideStoreModel" "WideStoreModel" "grace" "I" : Cond) ∈ AL := List.mem_append_right _ (List.mem_append_right _ (List.mem_append_right _ (List.mem_append_right _ (List.mem_append_right _ (List.mem_append_right _ (List.mem_append_right _ (List.mem_append_right _ (List.mem_append_left _ (show _ ∈ AL_8 from List.mem_of_getElem? (i := 38) rfl)))))))))
theorem al_359 : (.lays "WideStoreModel" "WideStoreModel" "now" "I" : Cond) ∈ AL := List.mem_append_right _ (List.mem_append_right _ (List.mem_append_right _ (List.mem_append_right _ (List.mem_append_right _ (List.mem_append_right _ (List.mem_append_right _ (List.mem_append_right _ (List.mem_append_left _ (show _ ∈ AL_8 from List.mem_of_getElem? (i := 39) rfl)))))))))
theorem al_360 : (.lays "WideStoreModel" "WideStoreModel" "memories" "I" : Cond) ∈ AL := List.mem_append_right _ (List.mem_append_right _ (List.mem_append_right _ (List.mem_append_right _ (List.mem_append_right _ (List.mem_append_right _ (List.mem_append_right _ (List.mem_append_right _ (List.mem_append_right _ (List.mem_append_left _ (show _ ∈ AL_9 from List.mem_of_getElem? (i := 0) rfl))))))))))
theorem al_361 : (.laysFinal "WideStoreModel" "WideStoreModel" "memory" "[I" : Cond) ∈ AL := List.mem_append_right _ (List.mem_append_right _ (List.mem_append_right _ (List.mem_append_right _ (List.mem_append_right _ (List.mem_append_right _ (List.mem_append_right _ (List.mem_append_right _ (List.mem_append_right _ (List.mem_append_left _ (show _ ∈ AL_9 from List.mem_of_getElem? (i := 1) rfl))))))))))
theorem al_362 : (.lays "WideStoreModel" "WideStoreModel" "logs" "I" : Cond) ∈ AL := List.mem_append_right _ (List.mem_append_right _ (List.mem_append_right _ (List.mem_append_right _ (List.mem_append_right _ (List.mem_append_right _ (List.mem_append_right _ (List.mem_append_right _ (List.mem_append_right _ (List.mem_append_left _ (show _ ∈ AL_9 from List.mem_of_getElem? (i := 2) rfl))))))))))
theorem al_363 : (.lays "WideStoreModel" "WideStoreModel" "safe" "I" : Cond) ∈ AL := List.mem_append_right _ (List.mem_append_right _ (List.mem_append_right _ (List.mem_append_right _ (List.mem_append_right _ (List.mem_append_right _ (List.mem_append_right _ (List.mem_append_right _ (List.mem_append_right _ (List.mem_append_left _ (show _ ∈ AL_9 from List.mem_of_getElem? (i := 3) rfl))))))))))
theorem al_364 : (.laysFinal "WideStoreModel" "WideStoreModel" "log" "[I" : Cond) ∈ AL := List.mem_append_right _ (List.mem_append_right _ (List.mem_append_right _ (List.mem_append_right _ (List.mem_append_right _ (List.mem_append_right _ (List.mem_append_right _ (List.mem_append_right _ (List.mem_append_right _ (List.mem_append_left _ (show _ ∈ AL_9 from List.mem_of_getElem? (i := 4) rfl))))))))))
theorem al_365 : (.lays "WideStoreModel" "WideStoreModel" "flushed" "I" : Cond) ∈ AL := List.mem_append_right _ (List.mem_append_right _ (List.mem_append_right _ (List.mem_append_right _ (List.mem_append_right _ (List.mem_append_right _ (List.mem_append_right _ (List.mem_append_right _ (List.mem_append_right _ (List.mem_append_left _ (show _ ∈ AL_9 from List.mem_of_getElem? (i := 5) rfl))))))))))
theorem al_366 : (.laysFinal "WideStoreModel" "WideStoreModel" "entry" "[I" : Cond) ∈ AL := List.mem_append_right _ (List.mem_append_right _ (List.mem_append_right _ (List.mem_append_right _ (List.mem_append_right _ (List.mem_append_right _ (List.mem_append_right _ (List.mem_append_right _ (List.mem_append_right _ (List.mem_append_left _ (show _ ∈ AL_9 from List.mem_of_getElem? (i := 6) rfl))))))))))
theorem al_367 : (.laysFinal "WideStoreModel" "WideStoreModel" "runOf" "[I" : Cond) ∈ AL := List.mem_append_right _ (List.mem_append_right _ (List.mem_append_right _ (List.mem_append_right _ (List.mem_append_right _ (List.mem_append_right _ (List.mem_append_right _ (List.mem_append_right _ (List.mem_append_right _ (List.mem_append_left _ (show _ ∈ AL_9 from List.mem_of_getElem? (i := 7) rfl))))))))))
theorem al_368 : (.lays "WideStoreModel" "WideStoreModel" "runs" "I" : Cond) ∈ AL := List.mem_append_right _ (List.mem_append_right _ (List.mem_append_right _ (List.mem_append_right _ (List.mem_append_right _ (List.mem_append_right _ (List.mem_append_right _ (List.mem_append_right _ (List.mem_append_right _ (List.mem_append_left _ (show _ ∈ AL_9 from List.mem_of_getElem? (i := 8) rfl))))))))))
theorem al_369 : (.lays "WideStoreModel" "WideStoreModel" "marks" "I" : Cond) ∈ AL := List.mem_append_right _ (List.mem_append_right _ (List.mem_append_right _ (List.mem_append_right _ (List.mem_append_right _ (List.mem_append_right _ (List.mem_append_right _ (List.mem_append_right _ (List.mem_append_right _ (List.mem_append_left _ (show _ ∈ AL_9 from List.mem_of_getElem? (i := 9) rfl))))))))))
theorem al_370 : (.laysFinal "WideStoreModel" "WideStoreModel" "mark" "[I" : Cond) ∈ AL := List.mem_append_right _ (List.mem_append_right _ (List.mem_append_right _ (List.mem_append_right _ (List.mem_append_right _ (List.mem_append_right _ (List.mem_append_right _ (List.mem_append_right _ (List.mem_append_right _ (List.mem_append_left _ (show _ ∈ AL_9 from List.mem_of_getElem? (i := 10) rfl))))))))))
theorem al_371 : (.laysFinal "WideStoreModel" "WideStoreModel" "tier" "[I" : Cond) ∈ AL := List.mem_append_right _ (List.mem_append_right _ (List.mem_append_right _ (List.mem_append_right _ (List.mem_append_right _ (List.mem_append_right _ (List.mem_append_right _ (List.mem_append_right _ (List.mem_append_right _ (List.mem_append_left _ (show _ ∈ AL_9 from List.mem_of_getElem? (i := 11) rfl))))))))))
theorem al_372 : (.laysFinal "WideStoreModel" "WideStoreModel" "cell" "[I" : Cond) ∈ AL := List.mem_append_right _ (List.mem_append_right _ (List.mem_append_right _ (List.mem_append_right _ (List.mem_append_right _ (List.mem_append_right _ (List.mem_append_right _ (List.mem_append_right _ (List.mem_append_right _ (List.mem_append_left _ (show _ ∈ AL_9 from List.mem_of_getElem? (i := 12) rfl))))))))))
theorem al_373 : (.arrayClass .int : Cond) ∈ AL := List.mem_append_right _ (List.mem_append_right _ (List.mem_append_right _ (List.mem_append_right _ (List.mem_append_right _ (List.mem_append_right _ (List.mem_append_right _ (List.mem_append_right _ (List.mem_append_right _ (List.mem_append_left _ (show _ ∈ AL_9 from List.mem_of_getElem? (i := 13) rfl))))))))))
theorem al_374 : (.methodLink "WideStoreLaw" 25 yXM_put : Cond) ∈ AL := List.mem_append_right _ (List.mem_append_right _ (List.mem_append_right _ (List.mem_append_right _ (List.mem_append_right _ (List.mem_append_right _ (List.mem_append_right _ (List.mem_append_right _ (List.mem_append_right _ (List.mem_append_left _ (show _ ∈ AL_9 from List.mem_of_getElem? (i := 14) rfl))))))))))
theorem al_375 : (.instanceMethod yXM_put : Cond) ∈ AL := List.mem_append_right _ (List.mem_append_right _ (List.mem_append_right _ (List.mem_append_right _ (List.mem_append_right _ (List.mem_append_right _ (List.mem_append_right _ (List.mem_append_right _ (List.mem_append_right _ (List.mem_append_left _ (show _ ∈ AL_9 from List.mem_of_getElem? (i := 15) rfl))))))))))
theorem al_376 : (.selects "WideStoreModel" yXM_put yXM_put : Cond) ∈ AL := List.mem_append_right _ (List.mem_append_right _ (List.mem_append_right _ (List.mem_append_right _ (List.mem_append_right _ (List.mem_append_right _ (List.mem_append_right _ (List.mem_append_right _ (List.mem_append_right _ (List.mem_append_left _ (show _ ∈ AL_9 from List.mem_of_getElem? (i := 16) rfl))))))))))
theorem al_377 : (.code yXM_put cXM_put 6 (some .boolean) : Cond) ∈ AL := List.mem_append_right _ (List.mem_append_right _ (List.mem_append_right _ (List.mem_append_right _ (List.mem_append_right _ (List.mem_append_right _ (List.mem_append_right _ (List.mem_append_right _ (List.mem_append_right _ (List.mem_append_left _ (show _ ∈ AL_9 from List.mem_of_getElem? (i := 17) rfl))))))))))
theorem al_378 : (.methodLink "WideStoreModel" 67 yXM_isPlace : Cond) ∈ AL := List.mem_append_right _ (List.mem_append_right _ (List.mem_append_right _ (List.mem_append_right _ (List.mem_append_right _ (List.mem_append_right _ (List.mem_append_right _ (List.mem_append_right _ (List.mem_append_right _ (List.mem_append_left _ (show _ ∈ AL_9 from List.mem_of_getElem? (i := 18) rfl))))))))))
theorem al_379 : (.static yXM_isPlace : Cond) ∈ AL := List.mem_append_right _ (List.mem_append_right _ (List.mem_append_right _ (List.mem_append_right _ (List.mem_append_right _ (List.mem_append_right _ (List.mem_append_right _ (List.mem_append_right _ (List.mem_append_right _ (List.mem_append_left _ (show _ ∈ AL_9 from List.mem_of_getElem? (i := 19) rfl))))))))))
theorem al_380 : (.code yXM_isPlace cXM_isPlace 2 (some .boolean) : Cond) ∈ AL := List.mem_append_right _ (List.mem_append_right _ (List.mem_append_right _ (List.mem_append_right _ (List.mem_append_right _ (List.mem_append_right _ (List.mem_append_right _ (List.mem_append_right _ (List.mem_append_right _ (List.mem_append_left _ (show _ ∈ AL_9 from List.mem_of_getElem? (i := 20) rfl))))))))))
theorem al_381 : (.methodLink "WideStoreModel" 71 yXM_isStamp : Cond) ∈ AL := List.mem_append_right _ (List.mem_append_right _ (List.mem_append_right _ (List.mem_append_right _ (List.mem_append_right _ (List.mem_append_right _ (List.mem_append_right _ (List.mem_append_right _ (List.mem_append_right _ (List.mem_append_left _ (show _ ∈ AL_9 from List.mem_of_getElem? (i := 21) rfl))))))))))
theorem al_382 : (.static yXM_isStamp : Cond) ∈ AL := List.mem_append_right _ (List.mem_append_right _ (List.mem_append_right _ (List.mem_append_right _ (List.mem_append_right _ (List.mem_append_right _ (List.mem_append_right _ (List.mem_append_right _ (List.mem_append_right _ (List.mem_append_left _ (show _ ∈ AL_9 from List.mem_of_getElem? (i := 22) rfl))))))))))
theorem al_383 : (.code yXM_isStamp cXM_isStamp 1 (some .boolean) : Cond) ∈ AL := List.mem_append_right _ (List.mem_append_right _ (List.mem_append_right _ (List.mem_append_right _ (List.mem_append_right _ (List.mem_append_right _ (List.mem_append_right _ (List.mem_append_right _ (List.mem_append_right _ (List.mem_append_left _ (show _ ∈ AL_9 from List.mem_of_getElem? (i := 23) rfl))))))))))
theorem al_384 : (.methodLink "WideStoreModel" 78 yXM_add : Cond) ∈ AL := List.mem_append_right _ (List.mem_append_right _ (List.mem_append_right _ (List.mem_append_right _ (List.mem_append_right _ (List.mem_append_right _ (List.mem_append_right _ (List.mem_append_right _ (List.mem_append_right _ (List.mem_append_left _ (show _ ∈ AL_9 from List.mem_of_getElem? (i := 24) rfl))))))))))
theorem al_385 : (.instanceMethod yXM_add : Cond) ∈ AL := List.mem_append_right _ (List.mem_append_right _ (List.mem_append_right _ (List.mem_append_right _ (List.mem_append_right _ (List.mem_append_right _ (List.mem_append_right _ (List.mem_append_right _ (List.mem_append_right _ (List.mem_append_left _ (show _ ∈ AL_9 from List.mem_of_getElem? (i := 25) rfl))))))))))
theorem al_386 : (.code yXM_add cXM_add 10 (some .boolean) : Cond) ∈ AL := List.mem_append_right _ (List.mem_append_right _ (List.mem_append_right _ (List.mem_append_right _ (List.mem_append_right _ (List.mem_append_right _ (List.mem_append_right _ (List.mem_append_right _ (List.mem_append_right _ (List.mem_append_left _ (show _ ∈ AL_9 from List.mem_of_getElem? (i := 26) rfl))))))))))
theorem al_387 : (.methodLink "WideStoreModel" 59 yXM_remember : Cond) ∈ AL := List.mem_append_right _ (List.mem_append_right _ (List.mem_append_right _ (List.mem_append_right _ (List.mem_append_right _ (List.mem_append_right _ (List.mem_append_right _ (List.mem_append_right _ (List.mem_append_right _ (List.mem_append_left _ (show _ ∈ AL_9 from List.mem_of_getElem? (i := 27) rfl))))))))))
theorem al_388 : (.instanceMethod yXM_remember : Cond) ∈ AL := List.mem_append_right _ (List.mem_append_right _ (List.mem_append_right _ (List.mem_append_right _ (List.mem_append_right _ (List.mem_append_right _ (List.mem_append_right _ (List.mem_append_right _ (List.mem_append_right _ (List.mem_append_left _ (show _ ∈ AL_9 from List.mem_of_getElem? (i := 28) rfl))))))))))
theorem al_389 : (.code yXM_remember cXM_remember 3 none : Cond) ∈ AL := List.mem_append_right _ (List.mem_append_right _ (List.mem_append_right _ (List.mem_append_right _ (List.mem_append_right _ (List.mem_append_right _ (List.mem_append_right _ (List.mem_append_right _ (List.mem_append_right _ (List.mem_append_left _ (show _ ∈ AL_9 from List.mem_of_getElem? (i := 29) rfl))))))))))
theorem al_390 : (.methodLink "WideStoreModel" 45 yXM_alike : Cond) ∈ AL := List.mem_append_right _ (List.mem_append_right _ (List.mem_append_right _ (List.mem_append_right _ (List.mem_append_right _ (List.mem_append_right _ (List.mem_append_right _ (List.mem_append_right _ (List.mem_append_right _ (List.mem_append_left _ (show _ ∈ AL_9 from List.mem_of_getElem? (i := 30) rfl))))))))))
theorem al_391 : (.static yXM_alike : Cond) ∈ AL := List.mem_append_right _ (List.mem_append_right _ (List.mem_append_right _ (List.mem_append_right _ (List.mem_append_right _ (List.mem_append_right _ (List.mem_append_right _ (List.mem_append_right _ (List.mem_append_right _ (List.mem_append_left _ (show _ ∈ AL_9 from List.mem_of_getElem? (i := 31) rfl))))))))))
theorem al_392 : (.code yXM_alike cXM_alike 5 (some .boolean) : Cond) ∈ AL := List.mem_append_right _ (List.mem_append_right _ (List.mem_append_right _ (List.mem_append_right _ (List.mem_append_right _ (List.mem_append_right _ (List.mem_append_right _ (List.mem_append_right _ (List.mem_append_right _ (List.mem_append_left _ (show _ ∈ AL_9 from List.mem_of_getElem? (i := 32) rfl))))))))))
theorem al_393 : (.methodLink "WideStoreModel" 38 yXM_point : Cond) ∈ AL := List.mem_append_right _ (List.mem_append_right _ (List.mem_append_right _ (List.mem_append_right _ (List.mem_append_right _ (List.mem_append_right _ (List.mem_append_right _ (List.mem_append_right _ (List.mem_append_right _ (List.mem_append_left _ (show _ ∈ AL_9 from List.mem_of_getElem? (i := 33) rfl))))))))))
theorem al_394 : (.static yXM_point : Cond) ∈ AL := List.mem_append_right _ (List.mem_append_right _ (List.mem_append_right _ (List.mem_append_right _ (List.mem_append_right _ (List.mem_append_right _ (List.mem_append_right _ (List.mem_append_right _ (List.mem_append_right _ (List.mem_append_left _ (show _ ∈ AL_9 from List.mem_of_getElem? (i := 34) rfl))))))))))
theorem al_395 : (.code yXM_point cXM_point 2 (some .boolean) : Cond) ∈ AL := List.mem_append_right _ (List.mem_append_right _ (List.mem_append_right _ (List.mem_append_right _ (List.mem_append_right _ (List.mem_append_right _ (List.mem_append_right _ (List.mem_append_right _ (List.mem_append_right _ (List.mem_append_left _ (show _ ∈ AL_9 from List.mem_of_getElem? (i := 35) rfl))))))))))
theorem al_396 : (.methodLink "WideStoreModel" 49 yXM_wins : Cond) ∈ AL := List.mem_append_right _ (List.mem_append_right _ (List.mem_append_right _ (List.mem_append_right _ (List.mem_append_right _ (List.mem_append_right _ (List.mem_append_right _ (List.mem_append_right _ (List.mem_append_right _ (List.mem_append_left _ (show _ ∈ AL_9 from List.mem_of_getElem? (i := 36) rfl))))))))))
theorem al_397 : (.static yXM_wins : Cond) ∈ AL := List.mem_append_right _ (List.mem_append_right _ (List.mem_append_right _ (List.mem_append_right _ (List.mem_append_right _ (List.mem_append_right _ (List.mem_append_right _ (List.mem_append_right _ (List.mem_append_right _ (List.mem_append_left _ (show _ ∈ AL_9 from List.mem_of_getElem? (i := 37) rfl))))))))))
theorem al_398 : (.code yXM_wins cXM_wins 4 (some .boolean) : Cond) ∈ AL := List.mem_append_right _ (List.mem_append_right _ (List.mem_append_right _ (List.mem_append_right _ (List.mem_append_right _ (List.mem_append_right _ (List.mem_append_right _ (List.mem_append_right _ (List.mem_append_right _ (List.mem_append_left _ (show _ ∈ AL_9 from List.mem_of_getElem? (i := 38) rfl))))))))))
theorem al_399 : (.methodLink "WideStoreModel" 52 yXM_copy : Cond) ∈ AL := List.mem_append_right _ (List.mem_append_right _ (List.mem_append_right _ (List.mem_append_right _ (List.mem_append_right _ (List.mem_append_right _ (List.mem_append_right _ (List.mem_append_right _ (List.mem_append_right _ (List.mem_append_left _ (show _ ∈ AL_9 from List.mem_of_getElem? (i := 39) rfl))))))))))
theorem al_400 : (.static yXM_copy : Cond) ∈ AL := List.mem_append_right _ (List.mem_append_right _ (List.mem_append_right _ (List.mem_append_right _ (List.mem_append_right _ (List.mem_append_right _ (List.mem_append_right _ (List.mem_append_right _ (List.mem_append_right _ (List.mem_append_right _ (List.mem_append_left _ (show _ ∈ AL_10 from List.mem_of_getElem? (i := 0) rfl)))))))))))
theorem al_401 : (.code yXM_copy cXM_copy 5 none : Cond) ∈ AL := List.mem_append_right _ (List.mem_append_right _ (List.mem_append_right _ (List.mem_append_right _ (List.mem_append_right _ (List.mem_append_right _ (List.mem_append_right _ (List.mem_append_right _ (List.mem_append_right _ (List.mem_append_right _ (List.mem_append_left _ (show _ ∈ AL_10 from List.mem_of_getElem? (i := 1) rfl)))))))))))
theorem al_402 : (.methodLink "WideStoreModel" 63 yXM_flushAll : Cond) ∈ AL := List.mem_append_right _ (List.mem_append_right _ (List.mem_append_right _ (List.mem_append_right _ (List.mem_append_right _ (List.mem_append_right _ (List.mem_append_right _ (List.mem_append_right _ (List.mem_append_right _ (List.mem_append_right _ (List.mem_append_left _ (show _ ∈ AL_10 from List.mem_of_getElem? (i := 2) rfl)))))))))))
theorem al_403 : (.instanceMethod yXM_flushAll : Cond) ∈ AL := List.mem_append_right _ (List.mem_append_right _ (List.mem_append_right _ (List.mem_append_right _ (List.mem_append_right _ (List.mem_append_right _ (List.mem_append_right _ (List.mem_append_right _ (List.mem_append_right _ (List.mem_append_right _ (List.mem_append_left _ (show _ ∈ AL_10 from List.mem_of_getElem? (i := 3) rfl)))))))))))
theorem al_404 : (.code yXM_flushAll cXM_flushAll 3 (some .int) : Cond) ∈ AL := List.mem_append_right _ (List.mem_append_right _ (List.mem_append_right _ (List.mem_append_right _ (List.mem_append_right _ (List.mem_append_right _ (List.mem_append_right _ (List.mem_append_right _ (List.mem_append_right _ (List.mem_append_right _ (List.mem_append_left _ (show _ ∈ AL_10 from List.mem_of_getElem? (i := 4) rfl)))))))))))
theorem al_405 : (.methodLink "WideStoreModel" 94 yXM_join : Cond) ∈ AL := List.mem_append_right _ (List.mem_append_right _ (List.mem_append_right _ (List.mem_append_right _ (List.mem_append_right _ (List.mem_append_right _ (List.mem_append_right _ (List.mem_append_right _ (List.mem_append_right _ (List.mem_append_right _ (List.mem_append_left _ (show _ ∈ AL_10 from List.mem_of_getElem? (i := 5) rfl)))))))))))
theorem al_406 : (.instanceMethod yXM_join : Cond) ∈ AL := List.mem_append_right _ (List.mem_append_right _ (List.mem_append_right _ (List.mem_append_right _ (List.mem_append_right _ (List.mem_append_right _ (List.mem_append_right _ (List.mem_append_right _ (List.mem_append_right _ (List.mem_append_right _ (List.mem_append_left _ (show _ ∈ AL_10 from List.mem_of_getElem? (i := 6) rfl)))))))))))
theorem al_407 : (.code yXM_join cXM_join 8 none : Cond) ∈ AL := List.mem_append_right _ (List.mem_append_right _ (List.mem_append_right _ (List.mem_append_right _ (List.mem_append_right _ (List.mem_append_right _ (List.mem_append_right _ (List.mem_append_right _ (List.mem_append_right _ (List.mem_append_right _ (List.mem_append_left _ (show _ ∈ AL_10 from List.mem_of_getElem? (i := 7) rfl)))))))))))
theorem al_408 : (.methodLink "WideStoreModel" 98 yXM_covers : Cond) ∈ AL := List.mem_append_right _ (List.mem_append_right _ (List.mem_append_right _ (List.mem_append_right _ (List.mem_append_right _ (List.mem_append_right _ (List.mem_append_right _ (List.mem_append_right _ (List.mem_append_right _ (List.mem_append_right _ (List.mem_append_left _ (show _ ∈ AL_10 from List.mem_of_getElem? (i := 8) rfl)))))))))))
theorem al_409 : (.static yXM_covers : Cond) ∈ AL := List.mem_append_right _ (List.mem_append_right _ (List.mem_append_right _ (List.mem_append_right _ (List.mem_append_right _ (List.mem_append_right _ (List.mem_append_right _ (List.mem_append_right _ (List.mem_append_right _ (List.mem_append_right _ (List.mem_append_left _ (show _ ∈ AL_10 from List.mem_of_getElem? (i := 9) rfl)))))))))))
theorem al_410 : (.code yXM_covers cXM_covers 5 (some .boolean) : Cond) ∈ AL := List.mem_append_right _ (List.mem_append_right _ (List.mem_append_right _ (List.mem_append_right _ (List.mem_append_right _ (List.mem_append_right _ (List.mem_append_right _ (List.mem_append_right _ (List.mem_append_right _ (List.mem_append_right _ (List.mem_append_left _ (show _ ∈ AL_10 from List.mem_of_getElem? (i := 10) rfl)))))))))))
theorem al_411 : (.methodLink "WideStoreLaw" 30 yXM_delete : Cond) ∈ AL := List.mem_append_right _ (List.mem_append_right _ (List.mem_append_right _ (List.mem_append_right _ (List.mem_append_right _ (List.mem_append_right _ (List.mem_append_right _ (List.mem_append_right _ (List.mem_append_right _ (List.mem_append_right _ (List.mem_append_left _ (show _ ∈ AL_10 from List.mem_of_getElem? (i := 11) rfl)))))))))))
theorem al_412 : (.instanceMethod yXM_delete : Cond) ∈ AL := List.mem_append_right _ (List.mem_append_right _ (List.mem_append_right _ (List.mem_append_right _ (List.mem_append_right _ (List.mem_append_right _ (List.mem_append_right _ (List.mem_append_right _ (List.mem_append_right _ (List.mem_append_right _ (List.mem_append_left _ (show _ ∈ AL_10 from List.mem_of_getElem? (i := 12) rfl)))))))))))
theorem al_413 : (.selects "WideStoreModel" yXM_delete yXM_delete : Cond) ∈ AL := List.mem_append_right _ (List.mem_append_right _ (List.mem_append_right _ (List.mem_append_right _ (List.mem_append_right _ (List.mem_append_right _ (List.mem_append_right _ (List.mem_append_right _ (List.mem_append_right _ (List.mem_append_right _ (List.mem_append_left _ (show _ ∈ AL_10 from List.mem_of_getElem? (i := 13) rfl)))))))))))
theorem al_414 : (.code yXM_delete cXM_delete 4 (some .boolean) : Cond) ∈ AL := List.mem_append_right _ (List.mem_append_right _ (List.mem_append_right _ (List.mem_append_right _ (List.mem_append_right _ (List.mem_append_right _ (List.mem_append_right _ (List.mem_append_right _ (List.mem_append_right _ (List.mem_append_right _ (List.mem_append_left _ (show _ ∈ AL_10 from List.mem_of_getElem? (i := 14) rfl)))))))))))
theorem al_415 : (.methodLink "WideStoreLaw" 35 yXM_wipe : Cond) ∈ AL := List.mem_append_right _ (List.mem_append_right _ (List.mem_append_right _ (List.mem_append_right _ (List.mem_append_right _ (List.mem_append_right _ (List.mem_append_right _ (List.mem_append_right _ (List.mem_append_right _ (List.mem_append_right _ (List.mem_append_left _ (show _ ∈ AL_10 from List.mem_of_getElem? (i := 15) rfl)))))))))))
theorem al_416 : (.instanceMethod yXM_wipe : Cond) ∈ AL := List.mem_append_right _ (List.mem_append_right _ (List.mem_append_right _ (List.mem_append_right _ (List.mem_append_right _ (List.mem_append_right _ (List.mem_append_right _ (List.mem_append_right _ (List.mem_append_right _ (List.mem_append_right _ (List.mem_append_left _ (show _ ∈ AL_10 from List.mem_of_getElem? (i := 16) rfl)))))))))))
theorem al_417 : (.selects "WideStoreModel" yXM_wipe yXM_wipe : Cond) ∈ AL := List.mem_append_right _ (List.mem_append_right _ (List.mem_append_right _ (List.mem_append_right _ (List.mem_append_right _ (List.mem_append_right _ (List.mem_append_right _ (List.mem_append_right _ (List.mem_append_right _ (List.mem_append_right _ (List.mem_append_left _ (show _ ∈ AL_10 from List.mem_of_getElem? (i := 17) rfl)))))))))))
theorem al_418 : (.code yXM_wipe cXM_wipe 5 (some .boolean) : Cond) ∈ AL := List.mem_append_right _ (List.mem_append_right _ (List.mem_append_right _ (List.mem_append_right _ (List.mem_append_right _ (List.mem_append_right _ (List.mem_append_right _ (List.mem_append_right _ (List.mem_append_right _ (List.mem_append_right _ (List.mem_append_left _ (show _ ∈ AL_10 from List.mem_of_getElem? (i := 18) rfl)))))))))))
theorem al_419 : (.methodLink "WideStoreLaw" 58 yXM_flush : Cond) ∈ AL := List.mem_append_right _ (List.mem_append_right _ (List.mem_append_right _ (List.mem_append_right _ (List.mem_append_right _ (List.mem_append_right _ (List.mem_append_right _ (List.mem_append_right _ (List.mem_append_right _ (List.mem_append_right _ (List.mem_append_left _ (show _ ∈ AL_10 from List.mem_of_getElem? (i := 19) rfl)))))))))))
theorem al_420 : (.instanceMethod yXM_flush : Cond) ∈ AL := List.mem_append_right _ (List.mem_append_right _ (List.mem_append_right _ (List.mem_append_right _ (List.mem_append_right _ (List.mem_append_right _ (List.mem_append_right _ (List.mem_append_right _ (List.mem_append_right _ (List.mem_append_right _ (List.mem_append_left _ (show _ ∈ AL_10 from List.mem_of_getElem? (i := 20) rfl)))))))))))
theorem al_421 : (.selects "WideStoreModel" yXM_flush yXM_flush : Cond) ∈ AL := List.mem_append_right _ (List.mem_append_right _ (List.mem_append_right _ (List.mem_append_right _ (List.mem_append_right _ (List.mem_append_right _ (List.mem_append_right _ (List.mem_append_right _ (List.mem_append_right _ (List.mem_append_right _ (List.mem_append_left _ (show _ ∈ AL_10 from List.mem_of_getElem? (i := 21) rfl)))))))))))
theorem al_422 : (.code yXM_flush cXM_flush 1 (some .int) : Cond) ∈ AL := List.mem_append_right _ (List.mem_append_right _ (List.mem_append_right _ (List.mem_append_right _ (List.mem_append_right _ (List.mem_append_right _ (List.mem_append_right _ (List.mem_append_right _ (List.mem_append_right _ (List.mem_append_right _ (List.mem_append_left _ (show _ ∈ AL_10 from List.mem_of_getElem? (i := 22) rfl)))))))))))
theorem al_423 : (.methodLink "WideStoreLaw" 62 yXM_merge : Cond) ∈ AL := List.mem_append_right _ (List.mem_append_right _ (List.mem_append_right _ (List.mem_append_right _ (List.mem_append_right _ (List.mem_append_right _ (List.mem_append_right _ (List.mem_append_right _ (List.mem_append_right _ (List.mem_append_right _ (List.mem_append_left _ (show _ ∈ AL_10 from List.mem_of_getElem? (i := 23) rfl)))))))))))
theorem al_424 : (.instanceMethod yXM_merge : Cond) ∈ AL := List.mem_append_right _ (List.mem_append_right _ (List.mem_append_right _ (List.mem_append_right _ (List.mem_append_right _ (List.mem_append_right _ (List.mem_append_right _ (List.mem_append_right _ (List.mem_append_right _ (List.mem_append_right _ (List.mem_append_left _ (show _ ∈ AL_10 from List.mem_of_getElem? (i := 24) rfl)))))))))))
theorem al_425 : (.selects "WideStoreModel" yXM_merge yXM_merge : Cond) ∈ AL := List.mem_append_right _ (List.mem_append_right _ (List.mem_append_right _ (List.mem_append_right _ (List.mem_append_right _ (List.mem_append_right _ (List.mem_append_right _ (List.mem_append_right _ (List.mem_append_right _ (List.mem_append_right _ (List.mem_append_left _ (show _ ∈ AL_10 from List.mem_of_getElem? (i := 25) rfl)))))))))))
theorem al_426 : (.code yXM_merge cXM_merge 3 (some .int) : Cond) ∈ AL := List.mem_append_right _ (List.mem_append_right _ (List.mem_append_right _ (List.mem_append_right _ (List.mem_append_right _ (List.mem_append_right _ (List.mem_append_right _ (List.mem_append_right _ (List.mem_append_right _ (List.mem_append_right _ (List.mem_append_left _ (show _ ∈ AL_10 from List.mem_of_getElem? (i := 26) rfl)))))))))))
theorem al_427 : (.methodLink "WideStoreModel" 102 yXM_run : Cond) ∈ AL := List.mem_append_right _ (List.mem_append_right _ (List.mem_append_right _ (List.mem_append_right _ (List.mem_append_right _ (List.mem_append_right _ (List.mem_append_right _ (List.mem_append_right _ (List.mem_append_right _ (List.mem_append_right _ (List.mem_append_left _ (show _ ∈ AL_10 from List.mem_of_getElem? (i := 27) rfl)))))))))))
theorem al_428 : (.instanceMethod yXM_run : Cond) ∈ AL := List.mem_append_right _ (List.mem_append_right _ (List.mem_append_right _ (List.mem_append_right _ (List.mem_append_right _ (List.mem_append_right _ (List.mem_append_right _ (List.mem_append_right _ (List.mem_append_right _ (List.mem_append_right _ (List.mem_append_left _ (show _ ∈ AL_10 from List.mem_of_getElem? (i := 28) rfl)))))))))))
theorem al_429 : (.selects "WideStoreModel" yXM_run yXM_run : Cond) ∈ AL := List.mem_append_right _ (List.mem_append_right _ (List.mem_append_right _ (List.mem_append_right _ (List.mem_append_right _ (List.mem_append_right _ (List.mem_append_right _ (List.mem_append_right _ (List.mem_append_right _ (List.mem_append_right _ (List.mem_append_left _ (show _ ∈ AL_10 from List.mem_of_getElem? (i := 29) rfl)))))))))))
theorem al_430 : (.code yXM_run cXM_run 5 (some .int) : Cond) ∈ AL := List.mem_append_right _ (List.mem_append_right _ (List.mem_append_right _ (List.mem_append_right _ (List.mem_append_right _ (List.mem_append_right _ (List.mem_append_right _ (List.mem_append_right _ (List.mem_append_right _ (List.mem_append_right _ (List.mem_append_left _ (show _ ∈ AL_10 from List.mem_of_getElem? (i := 30) rfl)))))))))))
theorem al_431 : (.methodLink "WideStoreLaw" 40 yXM_get : Cond) ∈ AL := List.mem_append_right _ (List.mem_append_right _ (List.mem_append_right _ (List.mem_append_right _ (List.mem_append_right _ (List.mem_append_right _ (List.mem_append_right _ (List.mem_append_right _ (List.mem_append_right _ (List.mem_append_right _ (List.mem_append_left _ (show _ ∈ AL_10 from List.mem_of_getElem? (i := 31) rfl)))))))))))
theorem al_432 : (.instanceMethod yXM_get : Cond) ∈ AL := List.mem_append_right _ (List.mem_append_right _ (List.mem_append_right _ (List.mem_append_right _ (List.mem_append_right _ (List.mem_append_right _ (List.mem_append_right _ (List.mem_append_right _ (List.mem_append_right _ (List.mem_append_right _ (List.mem_append_left _ (show _ ∈ AL_10 from List.mem_of_getElem? (i := 32) rfl)))))))))))
theorem al_433 : (.selects "WideStoreModel" yXM_get yXM_get : Cond) ∈ AL := List.mem_append_right _ (List.mem_append_right _ (List.mem_append_right _ (List.mem_append_right _ (List.mem_append_right _ (List.mem_append_right _ (List.mem_append_right _ (List.mem_append_right _ (List.mem_append_right _ (List.mem_append_right _ (List.mem_append_left _ (show _ ∈ AL_10 from List.mem_of_getElem? (i := 33) rfl)))))))))))
theorem al_434 : (.code yXM_get cXM_get 3 (some .int) : Cond) ∈ AL := List.mem_append_right _ (List.mem_append_right _ (List.mem_append_right _ (List.mem_append_right _ (List.mem_append_right _ (List.mem_append_right _ (List.mem_append_right _ (List.mem_append_right _ (List.mem_append_right _ (List.mem_append_right _ (List.mem_append_left _ (show _ ∈ AL_10 from List.mem_of_getElem? (i := 34) rfl)))))))))))
theorem al_435 : (.methodLink "WideStoreModel" 110 yXM_seen : Cond) ∈ AL := List.mem_append_right _ (List.mem_append_right _ (List.mem_append_right _ (List.mem_append_right _ (List.mem_append_right _ (List.mem_append_right _ (List.mem_append_right _ (List.mem_append_right _ (List.mem_append_right _ (List.mem_append_right _ (List.mem_append_left _ (show _ ∈ AL_10 from List.mem_of_getElem? (i := 35) rfl)))))))))))
theorem al_436 : (.instanceMethod yXM_seen : Cond) ∈ AL := List.mem_append_right _ (List.mem_append_right _ (List.mem_append_right _ (List.mem_append_right _ (List.mem_append_right _ (List.mem_append_right _ (List.mem_append_right _ (List.mem_append_right _ (List.mem_append_right _ (List.mem_append_right _ (List.mem_append_left _ (show _ ∈ AL_10 from List.mem_of_getElem? (i := 36) rfl)))))))))))
theorem al_437 : (.code yXM_seen cXM_seen 5 (some .boolean) : Cond) ∈ AL := List.mem_append_right _ (List.mem_append_right _ (List.mem_append_right _ (List.mem_append_right _ (List.mem_append_right _ (List.mem_append_right _ (List.mem_append_right _ (List.mem_append_right _ (List.mem_append_right _ (List.mem_append_right _ (List.mem_append_left _ (show _ ∈ AL_10 from List.mem_of_getElem? (i := 37) rfl)))))))))))
theorem al_438 : (.methodLink "WideStoreModel" 107 yXM_winner : Cond) ∈ AL := List.mem_append_right _ (List.mem_append_right _ (List.mem_append_right _ (List.mem_append_right _ (List.mem_append_right _ (List.mem_append_right _ (List.mem_append_right _ (List.mem_append_right _ (List.mem_append_right _ (List.mem_append_right _ (List.mem_append_left _ (show _ ∈ AL_10 from List.mem_of_getElem? (i := 38) rfl)))))))))))
theorem al_439 : (.instanceMethod yXM_winner : Cond) ∈ AL := List.mem_append_right _ (List.mem_append_right _ (List.mem_append_right _ (List.mem_append_right _ (List.mem_append_right _ (List.mem_append_right _ (List.mem_append_right _ (List.mem_append_right _ (List.mem_append_right _ (List.mem_append_right _ (List.mem_append_left _ (show _ ∈ AL_10 from List.mem_of_getElem? (i := 39) rfl)))))))))))
theorem al_440 : (.code yXM_winner cXM_winner 6 (some .int) : Cond) ∈ AL := List.mem_append_right _ (List.mem_append_right _ (List.mem_append_right _ (List.mem_append_right _ (List.mem_append_right _ (List.mem_append_right _ (List.mem_append_right _ (List.mem_append_right _ (List.mem_append_right _ (List.mem_append_right _ (List.mem_append_right _ ((show _ ∈ AL_11 from List.mem_of_getElem? (i := 0) rfl))))))))))))
theorem al_441 : (.constant "WideStoreModel" 106 (-1000000) : Cond) ∈ AL := List.mem_append_right _ (List.mem_append_right _ (List.mem_append_right _ (List.mem_append_right _ (List.mem_append_right _ (List.mem_append_right _ (List.mem_append_right _ (List.mem_append_right _ (List.mem_append_right _ (List.mem_append_right _ (List.mem_append_right _ ((show _ ∈ AL_11 from List.mem_of_getElem? (i := 1) rfl))))))))))))
theorem al_442 : (.methodLink "WideStoreLaw" 44 yXM_stamp : Cond) ∈ AL := List.mem_append_right _ (List.mem_append_right _ (List.mem_append_right _ (List.mem_append_right _ (List.mem_append_right _ (List.mem_append_right _ (List.mem_append_right _ (List.mem_append_right _ (List.mem_append_right _ (List.mem_append_right _ (List.mem_append_right _ ((show _ ∈ AL_11 from List.mem_of_getElem? (i := 2) rfl))))))))))))
theorem al_443 : (.instanceMethod yXM_stamp : Cond) ∈ AL := List.mem_append_right _ (List.mem_append_right _ (List.mem_append_right _ (List.mem_append_right _ (List.mem_append_right _ (List.mem_append_right _ (List.mem_append_right _ (List.mem_append_right _ (List.mem_append_right _ (List.mem_append_right _ (List.mem_append_right _ ((show _ ∈ AL_11 from List.mem_of_getElem? (i := 3) rfl))))))))))))
theorem al_444 : (.selects "WideStoreModel" yXM_stamp yXM_stamp : Cond) ∈ AL := List.mem_append_right _ (List.mem_append_right _ (List.mem_append_right _ (List.mem_append_right _ (List.mem_append_right _ (List.mem_append_right _ (List.mem_append_right _ (List.mem_append_right _ (List.mem_append_right _ (List.mem_append_right _ (List.mem_append_right _ ((show _ ∈ AL_11 from List.mem_of_getElem? (i := 4) rfl))))))))))))
theorem al_445 : (.code yXM_stamp cXM_stamp 3 (some .int) : Cond) ∈ AL := List.mem_append_right _ (List.mem_append_right _ (List.mem_append_right _ (List.mem_append_right _ (List.mem_append_right _ (List.mem_append_right _ (List.mem_append_right _ (List.mem_append_right _ (List.mem_append_right _ (List.mem_append_right _ (List.mem_append_right _ ((show _ ∈ AL_11 from List.mem_of_getElem? (i := 5) rfl))))))))))))
theorem al_446 : (.methodLink "WideStoreLaw" 48 yXM_next : Cond) ∈ AL := List.mem_append_right _ (List.mem_append_right _ (List.mem_append_right _ (List.mem_append_right _ (List.mem_append_right _ (List.mem_append_right _ (List.mem_append_right _ (List.mem_append_right _ (List.mem_append_right _ (List.mem_append_right _ (List.mem_append_right _ ((show _ ∈ AL_11 from List.mem_of_getElem? (i := 6) rfl))))))))))))
theorem al_447 : (.instanceMethod yXM_next : Cond) ∈ AL := List.mem_append_right _ (List.mem_append_right _ (List.mem_append_right _ (List.mem_append_right _ (List.mem_append_right _ (List.mem_append_right _ (List.mem_append_right _ (List.mem_append_right _ (List.mem_append_right _ (List.mem_append_right _ (List.mem_append_right _ ((show _ ∈ AL_11 from List.mem_of_getElem? (i := 7) rfl))))))))))))
theorem al_448 : (.selects "WideStoreModel" yXM_next yXM_next : Cond) ∈ AL := List.mem_append_right _ (List.mem_append_right _ (List.mem_append_right _ (List.mem_append_right _ (List.mem_append_right _ (List.mem_append_right _ (List.mem_append_right _ (List.mem_append_right _ (List.mem_append_right _ (List.mem_append_right _ (List.mem_append_right _ ((show _ ∈ AL_11 from List.mem_of_getElem? (i := 8) rfl))))))))))))
theorem al_449 : (.code yXM_next cXM_next 4 (some .int) : Cond) ∈ AL := List.mem_append_right _ (List.mem_append_right _ (List.mem_append_right _ (List.mem_append_right _ (List.mem_append_right _ (List.mem_append_right _ (List.mem_append_right _ (List.mem_append_right _ (List.mem_append_right _ (List.mem_append_right _ (List.mem_append_right _ ((show _ ∈ AL_11 from List.mem_of_getElem? (i := 9) rfl))))))))))))
theorem al_450 : (.methodLink "WideStoreLaw" 53 yXM_nextRow : Cond) ∈ AL := List.mem_append_right _ (List.mem_append_right _ (List.mem_append_right _ (List.mem_append_right _ (List.mem_append_right _ (List.mem_append_right _ (List.mem_append_right _ (List.mem_append_right _ (List.mem_append_right _ (List.mem_append_right _ (List.mem_append_right _ ((show _ ∈ AL_11 from List.mem_of_getElem? (i := 10) rfl))))))))))))
theorem al_451 : (.instanceMethod yXM_nextRow : Cond) ∈ AL := List.mem_append_right _ (List.mem_append_right _ (List.mem_append_right _ (List.mem_append_right _ (List.mem_append_right _ (List.mem_append_right _ (List.mem_append_right _ (List.mem_append_right _ (List.mem_append_right _ (List.mem_append_right _ (List.mem_append_right _ ((show _ ∈ AL_11 from List.mem_of_getElem? (i := 11) rfl))))))))))))
theorem al_452 : (.selects "WideStoreModel" yXM_nextRow yXM_nextRow : Cond) ∈ AL := List.mem_append_right _ (List.mem_append_right _ (List.mem_append_right _ (List.mem_append_right _ (List.mem_append_right _ (List.mem_append_right _ (List.mem_append_right _ (List.mem_append_right _ (List.mem_append_right _ (List.mem_append_right _ (List.mem_append_right _ ((show _ ∈ AL_11 from List.mem_of_getElem? (i := 12) rfl))))))))))))
theorem al_453 : (.code yXM_nextRow cXM_nextRow 3 (some .int) : Cond) ∈ AL := List.mem_append_right _ (List.mem_append_right _ (List.mem_append_right _ (List.mem_append_right _ (List.mem_append_right _ (List.mem_append_right _ (List.mem_append_right _ (List.mem_append_right _ (List.mem_append_right _ (List.mem_append_right _ (List.mem_append_right _ ((show _ ∈ AL_11 from List.mem_of_getElem? (i := 13) rfl))))))))))))
theorem al_454 : (.methodLink "WideStoreModel" 113 yXM_next : Cond) ∈ AL := List.mem_append_right _ (List.mem_append_right _ (List.mem_append_right _ (List.mem_append_right _ (List.mem_append_right _ (List.mem_append_right _ (List.mem_append_right _ (List.mem_append_right _ (List.mem_append_right _ (List.mem_append_right _ (List.mem_append_right _ ((show _ ∈ AL_11 from List.mem_of_getElem? (i := 14) rfl))))))))))))
theorem al_455 : (.methodLink "WideStoreLaw" 66 yXM_sync : Cond) ∈ AL := List.mem_append_right _ (List.mem_append_right _ (List.mem_append_right _ (List.mem_append_right _ (List.mem_append_right _ (List.mem_append_right _ (List.mem_append_right _ (List.mem_append_right _ (List.mem_append_right _ (List.mem_append_right _ (List.mem_append_right _ ((show _ ∈ AL_11 from List.mem_of_getElem? (i := 15) rfl))))))))))))
theorem al_456 : (.instanceMethod yXM_sync : Cond) ∈ AL := List.mem_append_right _ (List.mem_append_right _ (List.mem_append_right _ (List.mem_append_right _ (List.mem_append_right _ (List.mem_append_right _ (List.mem_append_right _ (List.mem_append_right _ (List.mem_append_right _ (List.mem_append_right _ (List.mem_append_right _ ((show _ ∈ AL_11 from List.mem_of_getElem? (i := 16) rfl))))))))))))
theorem al_457 : (.selects "WideStoreModel" yXM_sync yXM_sync : Cond) ∈ AL := List.mem_append_right _ (List.mem_append_right _ (List.mem_append_right _ (List.mem_append_right _ (List.mem_append_right _ (List.mem_append_right _ (List.mem_append_right _ (List.mem_append_right _ (List.mem_append_right _ (List.mem_append_right _ (List.mem_append_right _ ((show _ ∈ AL_11 from List.mem_of_getElem? (i := 17) rfl))))))))))))
theorem al_458 : (.code yXM_sync cXM_sync 1 (some .int) : Cond) ∈ AL := List.mem_append_right _ (List.mem_append_right _ (List.mem_append_right _ (List.mem_append_right _ (List.mem_append_right _ (List.mem_append_right _ (List.mem_append_right _ (List.mem_append_right _ (List.mem_append_right _ (List.mem_append_right _ (List.mem_append_right _ ((show _ ∈ AL_11 from List.mem_of_getElem? (i := 18) rfl))))))))))))
theorem al_459 : (.methodLink "WideStoreLaw" 70 yXM_crash : Cond) ∈ AL := List.mem_append_right _ (List.mem_append_right _ (List.mem_append_right _ (List.mem_append_right _ (List.mem_append_right _ (List.mem_append_right _ (List.mem_append_right _ (List.mem_append_right _ (List.mem_append_right _ (List.mem_append_right _ (List.mem_append_right _ ((show _ ∈ AL_11 from List.mem_of_getElem? (i := 19) rfl))))))))))))
theorem al_460 : (.instanceMethod yXM_crash : Cond) ∈ AL := List.mem_append_right _ (List.mem_append_right _ (List.mem_append_right _ (List.mem_append_right _ (List.mem_append_right _ (List.mem_append_right _ (List.mem_append_right _ (List.mem_append_right _ (List.mem_append_right _ (List.mem_append_right _ (List.mem_append_right _ ((show _ ∈ AL_11 from List.mem_of_getElem? (i := 20) rfl))))))))))))
theorem al_461 : (.selects "WideStoreModel" yXM_crash yXM_crash : Cond) ∈ AL := List.mem_append_right _ (List.mem_append_right _ (List.mem_append_right _ (List.mem_append_right _ (List.mem_append_right _ (List.mem_append_right _ (List.mem_append_right _ (List.mem_append_right _ (List.mem_append_right _ (List.mem_append_right _ (List.mem_append_right _ ((show _ ∈ AL_11 from List.mem_of_getElem? (i := 21) rfl))))))))))))
theorem al_462 : (.code yXM_crash cXM_crash 2 (some .int) : Cond) ∈ AL := List.mem_append_right _ (List.mem_append_right _ (List.mem_append_right _ (List.mem_append_right _ (List.mem_append_right _ (List.mem_append_right _ (List.mem_append_right _ (List.mem_append_right _ (List.mem_append_right _ (List.mem_append_right _ (List.mem_append_right _ ((show _ ∈ AL_11 from List.mem_of_getElem? (i := 22) rfl))))))))))))
theorem al_463 : (.methodLink "WideStoreLaw" 74 yXM_tick : Cond) ∈ AL := List.mem_append_right _ (List.mem_append_right _ (List.mem_append_right _ (List.mem_append_right _ (List.mem_append_right _ (List.mem_append_right _ (List.mem_append_right _ (List.mem_append_right _ (List.mem_append_right _ (List.mem_append_right _ (List.mem_append_right _ ((show _ ∈ AL_11 from List.mem_of_getElem? (i := 23) rfl))))))))))))
theorem al_464 : (.instanceMethod yXM_tick : Cond) ∈ AL := List.mem_append_right _ (List.mem_append_right _ (List.mem_append_right _ (List.mem_append_right _ (List.mem_append_right _ (List.mem_append_right _ (List.mem_append_right _ (List.mem_append_right _ (List.mem_append_right _ (List.mem_append_right _ (List.mem_append_right _ ((show _ ∈ AL_11 from List.mem_of_getElem? (i := 24) rfl))))))))))))
theorem al_465 : (.selects "WideStoreModel" yXM_tick yXM_tick : Cond) ∈ AL := List.mem_append_right _ (List.mem_append_right _ (List.mem_append_right _ (List.mem_append_right _ (List.mem_append_right _ (List.mem_append_right _ (List.mem_append_right _ (List.mem_append_right _ (List.mem_append_right _ (List.mem_append_right _ (List.mem_append_right _ ((show _ ∈ AL_11 from List.mem_of_getElem? (i := 25) rfl))))))))))))
theorem al_466 : (.code yXM_tick cXM_tick 2 (some .int) : Cond) ∈ AL := List.mem_append_right _ (List.mem_append_right _ (List.mem_append_right _ (List.mem_append_right _ (List.mem_append_right _ (List.mem_append_right _ (List.mem_append_right _ (List.mem_append_right _ (List.mem_append_right _ (List.mem_append_right _ (List.mem_append_right _ ((show _ ∈ AL_11 from List.mem_of_getElem? (i := 26) rfl))))))))))))
theorem al_467 : (.methodLink "WideStoreLaw" 78 yXM_count : Cond) ∈ AL := List.mem_append_right _ (List.mem_append_right _ (List.mem_append_right _ (List.mem_append_right _ (List.mem_append_right _ (List.mem_append_right _ (List.mem_append_right _ (List.mem_append_right _ (List.mem_append_right _ (List.mem_append_right _ (List.mem_append_right _ ((show _ ∈ AL_11 from List.mem_of_getElem? (i := 27) rfl))))))))))))
theorem al_468 : (.instanceMethod yXM_count : Cond) ∈ AL := List.mem_append_right _ (List.mem_append_right _ (List.mem_append_right _ (List.mem_append_right _ (List.mem_append_right _ (List.mem_append_right _ (List.mem_append_right _ (List.mem_append_right _ (List.mem_append_right _ (List.mem_append_right _ (List.mem_append_right _ ((show _ ∈ AL_11 from List.mem_of_getElem? (i := 28) rfl))))))))))))
theorem al_469 : (.selects "WideStoreModel" yXM_count yXM_count : Cond) ∈ AL := List.mem_append_right _ (List.mem_append_right _ (List.mem_append_right _ (List.mem_append_right _ (List.mem_append_right _ (List.mem_append_right _ (List.mem_append_right _ (List.mem_append_right _ (List.mem_append_right _ (List.mem_append_right _ (List.mem_append_right _ ((show _ ∈ AL_11 from List.mem_of_getElem? (i := 29) rfl))))))))))))
theorem al_470 : (.code yXM_count cXM_count 2 (some .int) : Cond) ∈ AL := List.mem_append_right _ (List.mem_append_right _ (List.mem_append_right _ (List.mem_append_right _ (List.mem_append_right _ (List.mem_append_right _ (List.mem_append_right _ (List.mem_append_right _ (List.mem_append_right _ (List.mem_append_right _ (List.mem_append_right _ ((show _ ∈ AL_11 from List.mem_of_getElem? (i := 30) rfl))))))))))))
theorem al_471 : (.methodLink "WideStoreLaw" 82 yXM_run : Cond) ∈ AL := List.mem_append_right _ (List.mem_append_right _ (List.mem_append_right _ (List.mem_append_right _ (List.mem_append_right _ (List.mem_append_right _ (List.mem_append_right _ (List.mem_append_right _ (List.mem_append_right _ (List.mem_append_right _ (List.mem_append_right _ ((show _ ∈ AL_11 from List.mem_of_getElem? (i := 31) rfl))))))))))))
theorem al_472 : (.selects "[Ljava/lang/Object;" ⟨"java/lang/Object", "getClass", "()Ljava/lang/Class;"⟩ ⟨"java/lang/Object", "getClass", "()Ljava/lang/Class;"⟩ : Cond) ∈ AL := List.mem_append_right _ (List.mem_append_right _ (List.mem_append_right _ (List.mem_append_right _ (List.mem_append_right _ (List.mem_append_right _ (List.mem_append_right _ (List.mem_append_right _ (List.mem_append_right _ (List.mem_append_right _ (List.mem_append_right _ ((show _ ∈ AL_11 from List.mem_of_getElem? (i := 32) rfl))))))))))))
theorem AL_good0 : ∀ w ∈ AL, ((w.onTables && w.keeps) = true ∨ ∃ ty, w = .arrayClass ty) := by
  intro w hw
  apply good_of_word
  rcases List.mem_append.mp hw with hw | hw
  · exact List.all_eq_true.mp AL_0_good w hw
  rcases List.mem_append.mp hw with hw | hw
  · exact List.all_eq_true.mp AL_1_good w hw
  rcases List.mem_append.mp hw with hw | hw
  · exact List.all_eq_true.mp AL_2_good w hw
  rcases List.mem_append.mp hw with hw | hw
  · exact List.all_eq_true.mp AL_3_good w hw
  rcases List.mem_append.mp hw with hw | hw
  · exact List.all_eq_true.mp AL_4_good w hw
  rcases List.mem_append.mp hw with hw | hw
  · exact List.all_eq_true.mp AL_5_good w hw
  rcases List.mem_append.mp hw with hw | hw
  · exact List.all_eq_true.mp AL_6_good w hw
  rcases List.mem_append.mp hw with hw | hw
  · exact List.all_eq_true.mp AL_7_good w hw
  rcases List.mem_append.mp hw with hw | hw
  · exact List.all_eq_true.mp AL_8_good w hw
  rcases List.mem_append.mp hw with hw | hw
  · exact List.all_eq_true.mp AL_9_good w hw
  rcases List.mem_append.mp hw with hw | hw
  · exact List.all_eq_true.mp AL_10_good w hw
  exact List.all_eq_true.mp AL_11_good w hw
end
section

abbrev mp_M : Type := Nat → Option va_E

abbrev gx_T : Type := Launch × va_G × (ClassId × ClassId × ClassId) × Nat × (Nat × Nat) × Nat × Nat × (Nat → Int32)
def gx_l (g : gx_T) : Launch := g.1
def gx_D (g : gx_T) : va_G := g.2.1
def gx_E (g : gx_T) : ClassId := g.2.2.1.1
def gx_O (g : gx_T) : ClassId := g.2.2.1.2.1
def gx_I (g : gx_T) : ClassId := g.2.2.1.2.2
def gx_z (g : gx_T) : Nat := g.2.2.2.1
def gx_e (g : gx_T) : Nat := g.2.2.2.2.1.1
def gx_m (g : gx_T) : Nat := g.2.2.2.2.1.2
def gx_b (g : gx_T) : Nat := g.2.2.2.2.2.1
def gx_L (g : gx_T) : Nat := g.2.2.2.2.2.2.1
def gx_x (g : gx_T) : Nat → Int32 := g.2.2.2.2.2.2.2
def gx_t (g : gx_T) : List (ClassId × FieldType) := [(gx_E g, .object "WideStore$Entry"), (gx_O g, .object "java/lang/Object"), (gx_I g, .int)]
def mp_K (g : gx_T) (U : State) : Prop := va_K (gx_D g) vwCl (gx_t g) U ∧ va_AO "WideStore$Entry" U ∧ va_AO "java/lang/Object" U ∧ va_Nw (.methodLinkNest RXT 27 yXS_pointSlot RXS) U ∧ va_Nw (.methodLinkNest RXT 45 yXS_wipeSlot RXS) U ∧ va_Nw (.castable RXT RXT) U ∧ va_Nw (.castable RXT "java/lang/Object") U ∧ va_Z "java/util/ArrayList" "DEFAULTCAPACITY_EMPTY_ELEMENTDATA" "[Ljava/lang/Object;" (.ref (gx_e g)) (fun q => gx_z g ≤ q) U U.heap ∧ va_T (.object "java/lang/Object") (gx_e g) 0 (fun _ => .null) (fun q => gx_z g ≤ q) U U.heap ∧ va_Mi "[Ljava/lang/Object;" (gx_m g) U ∧ va_Dc U ∧ va_X (gx_b g) (gx_L g) (gx_x g) U U.heap ∧ gx_b g < gx_z g
theorem mp_K.to {g : gx_T} {s U : State} {H : Heap} {locs : List Loc} (h : mp_K g s) (hz : gx_z g ≤ s.heap.size) (hW : s.WarmedH U.vm) (hU : U.heap = H) (hS : va_S (fun q => gx_z g ≤ q) s.heap H locs) : mp_K g U := by
  obtain ⟨h1, h2, h3, h4, h5, h6, h7, h8, h9, h10, h11, h12, h13⟩ := h
  subst hU
  exact ⟨h1.moved hW.alike, h2.moved hW.alike, h3.moved hW.alike, h4.warmM hW, h5.warmM hW, h6.warmC hW, h7.warmC hW, (h8.moved hW.alike).kept hS.2.1, (h9.moved hW.alike).kept hS.2.1, h10.moved hW.alike, h11.moved hW.alike, (h12.moved hW.alike).kept (hS.2.1 _ (Nat.lt_of_lt_of_le h13 hz) (Nat.not_le.mpr h13)), h13⟩
theorem mp_K.calling {g : gx_T} {U : State} {f : JFrame} {mk : MethodId} {a : Array Value} (h : mp_K g U) : mp_K g (U.calling f mk a) := by
  obtain ⟨h1, h2, h3, h4, h5, h6, h7, h8, h9, h10, h11, h12, h13⟩ := h
  exact ⟨va_K.moved (u := U) (U := U.calling f mk a) (Vm.Alike.refl U.vm) h1, va_AO.moved (u := U) (U := U.calling f mk a) (Vm.Alike.refl U.vm) h2, va_AO.moved (u := U) (U := U.calling f mk a) (Vm.Alike.refl U.vm) h3, va_Nw.same rfl (u := U) (U := U.calling f mk a) rfl h4, va_Nw.same rfl (u := U) (U := U.calling f mk a) rfl h5, va_Nw.same rfl (u := U) (U := U.calling f mk a) rfl h6, va_Nw.same rfl (u := U) (U := U.calling f mk a) rfl h7, va_Z.moved (u := U) (U := U.calling f mk a) (Vm.Alike.refl U.vm) h8, va_T.moved (u := U) (U := U.calling f mk a) (Vm.Alike.refl U.vm) h9, va_Mi.moved (u := U) (U := U.calling f mk a) (Vm.Alike.refl U.vm) h10, va_Dc.moved (u := U) (U := U.calling f mk a) (Vm.Alike.refl U.vm) h11, va_X.moved (u := U) (U := U.calling f mk a) (Vm.Alike.refl U.vm) h12, h13⟩
def mp_H (g : gx_T) (M : mp_M) (H : Heap) : Prop := gx_z g ≤ H.size ∧ ∃ ws : va_W, va_P (gx_D g) vwCl ws H ∧ va_D (fun q => gx_z g ≤ q) ws ∧ ∀ (q : Nat) (e : va_E), M q = some e → ∃ k : Nat, ws[k]? = some (q, e)
def mp_u (M : mp_M) (a : Nat) (e : va_E) : mp_M := fun q => if q = a then some e else M q
theorem mp_us {M : mp_M} {a : Nat} {e : va_E} : mp_u M a e a = some e := if_pos rfl
theorem mp_un {M : mp_M} {a q : Nat} {e : va_E} (h : q ≠ a) : mp_u M a e q = M q := if_neg h
theorem mp_uu {M : mp_M} {a : Nat} {e1 e2 : va_E} : mp_u (mp_u M a e1) a e2 = mp_u M a e2 := by
  funext q
  unfold mp_u
  by_cases h : q = a
  · rw [if_pos h, if_pos h]
  · rw [if_neg h, if_neg h, if_neg h]
theorem mp_same {M : mp_M} {a : Nat} {e : va_E} (h : M a = some e) : mp_u M a e = M := by
  funext q
  unfold mp_u
  by_cases hq : q = a
  · rw [if_pos hq, hq, h]
  · rw [if_neg hq]

def mp_k (P : Nat → Prop) (M M' : mp_M) : Prop := ∀ (q : Nat) (e : va_E), ¬ P q → M q = some e → M' q = some e
theorem mp_k.rf {P : Nat → Prop} {M : mp_M} : mp_k P M M := fun _ _ _ h => h
theorem mp_k.tr {P : Nat → Prop} {M M' M2 : mp_M} (h : mp_k P M M') (h2 : mp_k P M' M2) : mp_k P M M2 := fun q e hq hm => h2 q e hq (h q e hq hm)
theorem mp_k.mono {P P' : Nat → Prop} {M M' : mp_M} (h : mp_k P M M') (hp : ∀ q, P q → P' q) : mp_k P' M M' := fun q e hq hm => h q e (fun z => hq (hp q z)) hm
theorem mp_k.up {P : Nat → Prop} {M : mp_M} {a : Nat} {e : va_E} (h : P a) : mp_k P M (mp_u M a e) := fun q e' hq hm => by rw [mp_un (fun z => hq (by rw [z]; exact h))]; exact hm
theorem mp_k.new {P : Nat → Prop} {M : mp_M} {a : Nat} {e : va_E} (h : M a = none) : mp_k P M (mp_u M a e) := fun q e' hq hm => by rw [mp_un (fun z => by rw [z, h] at hm; cases hm)]; exact hm
theorem mp_set {M : mp_M} {ws : va_W} {A : Nat → Prop} {a k : Nat} {e0 e : va_E} (hD : va_D A ws) (hM : ∀ (q : Nat) (e : va_E), M q = some e → ∃ k : Nat, ws[k]? = some (q, e)) (hk : ws[k]? = some (a, e0)) : ∀ (q : Nat) (e' : va_E), mp_u M a e q = some e' → ∃ j : Nat, (ws.set k (a, e))[j]? = some (q, e') := by
  intro q e' h
  have hl := (List.getElem?_eq_some_iff.mp hk).1
  by_cases hq : q = a
  · subst hq
    rw [mp_us] at h
    cases h
    exact ⟨k, List.getElem?_set_self hl⟩
  · rw [mp_un hq] at h
    obtain ⟨j, hj⟩ := hM q e' h
    refine ⟨j, ?_⟩
    rw [List.getElem?_set_ne (fun z => ?_)]
    · exact hj
    · subst z
      rw [hk] at hj
      cases hj
      exact hq rfl
theorem mp_push {M : mp_M} {ws : va_W} {A : Nat → Prop} {a : Nat} {e : va_E} (hD : va_D A (ws ++ [(a, e)])) (hM : ∀ (q : Nat) (e : va_E), M q = some e → ∃ k : Nat, ws[k]? = some (q, e)) : M a = none ∧ ∀ (q : Nat) (e' : va_E), mp_u M a e q = some e' → ∃ j : Nat, (ws ++ [(a, e)])[j]? = some (q, e') := by
  have hlast : (ws ++ [(a, e)])[ws.length]? = some (a, e) := by
    rw [List.getElem?_append_right (Nat.le_refl _), Nat.sub_self]; rfl
  have hold : ∀ {j : Nat} {x : Nat × va_E}, ws[j]? = some x → (ws ++ [(a, e)])[j]? = some x := by
    intro j x hj
    rw [List.getElem?_append_left (List.getElem?_eq_some_iff.mp hj).1]
    exact hj
  refine ⟨?_, fun q e' h => ?_⟩
  · cases hMa : M a with
    | none => rfl
    | some e1 =>
      obtain ⟨j, hj⟩ := hM a e1 hMa
      have := hD.1 j ws.length _ _ (hold hj) hlast rfl
      have hl := (List.getElem?_eq_some_iff.mp hj).1
      omega
  · by_cases hq : q = a
    · subst hq
      rw [mp_us] at h
      cases h
      exact ⟨_, hlast⟩
    · rw [mp_un hq] at h
      obtain ⟨j, hj⟩ := hM q e' h
      exact ⟨j, hold hj⟩

def lx_q : Nat → List (Option Value) → List (Nat × Value)
  | _, [] => []
  | i, none :: r => lx_q (i + 1) r
  | i, some v :: r => (i, v) :: lx_q (i + 1) r
theorem lx_mem : ∀ (L : List (Option Value)) (i : Nat) (q : Nat × Value), q ∈ lx_q i L ↔ ∃ j : Nat, q.1 = i + j ∧ L[j]? = some (some q.2)
  | [], i, q => by simp [lx_q]
  | none :: r, i, q => by
    rw [lx_q, lx_mem r (i + 1) q]
    constructor
    · rintro ⟨j, h1, h2⟩
      exact ⟨j + 1, by omega, by simpa using h2⟩
    · rintro ⟨j, h1, h2⟩
      cases j with
      | zero => simp at h2
      | succ j => exact ⟨j, by omega, by simpa using h2⟩
  | some v :: r, i, q => by
    rw [lx_q, List.mem_cons, lx_mem r (i + 1) q]
    constructor
    · rintro (h | ⟨j, h1, h2⟩)
      · subst h
        exact ⟨0, rfl, rfl⟩
      · exact ⟨j + 1, by omega, by simpa using h2⟩
    · rintro ⟨j, h1, h2⟩
      cases j with
      | zero =>
        left
        simp at h2
        obtain ⟨a, b⟩ := q
        simp at h1 h2
        rw [h1, h2]
      | succ j => exact Or.inr ⟨j, by omega, by simpa using h2⟩
def lx (ls : Array Slot) (nL : Nat) (L : List (Option Value)) : Prop := lv_has ls nL (lx_q 0 L) ∧ L.length = nL ∧ ∀ v, some v ∈ L → v.category = 1
theorem lx.at {ls : Array Slot} {nL : Nat} {L : List (Option Value)} (h : lx ls nL L) {i : Nat} {v : Value} (hi : L[i]? = some (some v)) : ls[i]? = some (.val v) := h.1.2.2 (i, v) ((lx_mem L 0 (i, v)).mpr ⟨i, (Nat.zero_add i).symm, hi⟩)
theorem lx.put {ls' : Array Slot} {nL : Nat} {L : List (Option Value)} {i : Nat} {v : Value} {l2 : List (Nat × Value)} {P : Nat × Value → Bool} (h2 : L.length = nL) (h3 : ∀ v, some v ∈ L → v.category = 1) (hv : v.category = 1) (hP : ∀ q, P q = (!(q.1 == i) && !(q.1 + 1 == i && q.2.category == 2))) (hl : (i, v) :: (lx_q 0 L).filter P = l2) (h : lv_has ls' nL l2) : lx ls' nL (L.set i (some v)) := by
  subst hl
  refine ⟨⟨h.1, h.2.1, fun q hq => ?_⟩, by rw [List.length_set]; exact h2, fun w hw => ?_⟩
  · obtain ⟨j, e1, e2⟩ := (lx_mem _ 0 q).mp hq
    rw [Nat.zero_add] at e1
    by_cases hj : j = i
    · subst hj
      have hlt : j < L.length := by
        have := (List.getElem?_eq_some_iff.mp e2).1
        rw [List.length_set] at this
        exact this
      rw [List.getElem?_set_self hlt] at e2
      have e3 : v = q.2 := Option.some.inj (Option.some.inj e2)
      refine h.2.2 q (List.mem_cons.mpr (Or.inl ?_))
      exact Prod.ext e1 e3.symm
    · rw [List.getElem?_set_ne (fun z => hj z.symm)] at e2
      refine h.2.2 q (List.mem_cons_of_mem _ (List.mem_filter.mpr ⟨(lx_mem L 0 q).mpr ⟨j, by omega, e2⟩, ?_⟩))
      rw [hP]
      have hc := h3 q.2 (List.mem_of_getElem? e2)
      have hne : (q.1 == i) = false := by
        rw [e1]
        exact beq_false_of_ne hj
      rw [hne, hc]
      simp
  · rcases List.mem_or_eq_of_mem_set hw with g | g
    · exact h3 w g
    · rw [Option.some.inj g]
      exact hv
theorem lx_entry_l : ∀ (vs : List Value) (i : Nat), (∀ v, v ∈ vs → v.category = 1) → ∀ (n : Nat), lx_q i (vs.map some ++ List.replicate n none) = lv_args i vs
  | [], i, _, n => by
    have : ∀ (n i : Nat), lx_q i (List.replicate n none) = [] := by
      intro n
      induction n with
      | zero => intro i; rfl
      | succ n ih => intro i; rw [List.replicate_succ, lx_q]; exact ih _
    simpa [lv_args] using this n i
  | v :: vs, i, h, n => by
    have hc := h v (List.mem_cons_self)
    have ih := lx_entry_l vs (i + 1) (fun w hw => h w (List.mem_cons_of_mem _ hw)) n
    simp only [List.map_cons, List.cons_append, lx_q, lv_args, hc]
    rw [ih]
    simp
theorem lx_len : ∀ (vs : List Value), (∀ v, v ∈ vs → v.category = 1) → (lg_sl vs).length = vs.length
  | [], _ => rfl
  | v :: vs, h => by
    have hc := h v (List.mem_cons_self)
    have ih := lx_len vs (fun w hw => h w (List.mem_cons_of_mem _ hw))
    simp only [lg_sl, List.flatMap_cons, hc, List.length_append] at ih ⊢
    simp only [List.length_cons]
    have e1 : ((if (1 : Nat) = 2 then [Slot.val v, Slot.second] else [Slot.val v]) : List Slot).length = 1 := rfl
    rw [e1, ih]
    omega
theorem lx_entry (vs : List Value) {n : Nat} (h : vs.length ≤ n) (hc : ∀ v, v ∈ vs → v.category = 1) : lx ((lg_sl vs ++ List.replicate (n - (lg_sl vs).length) Slot.unset).toArray) n (vs.map some ++ List.replicate (n - vs.length) none) := by
  refine ⟨?_, ?_, ?_⟩
  · rw [lx_entry_l vs 0 hc]
    exact lv_entry vs (by rw [lx_len vs hc]; exact h)
  · simp
    omega
  · intro v hv
    rcases List.mem_append.mp hv with g | g
    · obtain ⟨w, h1, h2⟩ := List.mem_map.mp g
      rw [← Option.some.inj h2]
      exact hc w h1
    · have := List.eq_of_mem_replicate g
      cases this

abbrev cx_T : Type := Program × Env × Room × State × MethodId × Array Value × List Frame × Method × Code × Nat × (State → Prop)
def VV (g : gx_T) (x : cx_T) (M : mp_M) (k n pc : Nat) (L : List (Option Value)) (st : List Value) : Prop := match x with
  | (p, e, R, s, m, args, below, meth, c, nL, Q) => ∀ (H : Heap) (locs : List Loc) (ls : Array Slot), mp_H g M H → va_S (fun q => gx_z g ≤ q) s.heap H locs → lx ls nL L → W p (gx_l g) e R s m args below meth c H locs k n Q (F0 m pc ls st)
def CX (g : gx_T) (x : cx_T) (cc : ByteArray) (own : String) (fr ce sl lc : Nat) : Prop := match x with
  | (p, _, R, s, m, args, _, _, c, nL, _) => CallFix p m c cc nL s args AL own ∧ mp_K g s ∧ R = { frames := fr, cells := ce, slots := sl, locals := lc } ∧ gx_z g ≤ s.heap.size

def mp_Q (g : gx_T) (Po : Option Value → mp_M → Prop) : Array Value → State → Outcome → State → Prop := fun _ st oc t => (∃ (v : Option Value) (M' : mp_M), oc = .returned v ∧ Po v M' ∧ mp_H g M' t.heap) ∧ va_F (fun q => gx_z g ≤ q) st t
def RX (g : gx_T) (x : cx_T) (ret : Option FieldType) (Po : Option Value → mp_M → Prop) (mc ms : Nat) : Prop := match x with
  | (_, _, _, s, _, args, below, meth, _, _, Q) => meth.sig.returnType = ret ∧ meth.locks = false ∧ Q = MQ below (mp_Q g Po) args s mc ms (fun q => gx_z g ≤ q)
def IX (x : cx_T) : Prop := match x with
  | (_, _, _, _, _, _, _, meth, _, _, _) => meth.name = "<init>"
section VROWS
variable {g : gx_T} {x : cx_T} {cc : ByteArray} {own : String} {fr ce sl lc : Nat} {M : mp_M} {k n pc : Nat} {L : List (Option Value)} {rest : List Value}

theorem v_iconst (C : CX g x cc own fr ce sl lc) (q : Nat) {i : Int} (hd : decode cc pc = .ok (.iconst i, 1)) (hq : pc + 1 = q) (v : Int32) (hv : Int32.ofInt i = v) (kk : VV g x M k n q L (.int v :: rest)) : VV g x M k n pc L (rest) := by
  obtain ⟨p, e, R, s, m, args, below, meth, c, nL, Q⟩ := x
  subst hq
  exact fun H locs ls hw hS hl => lv_iconst C.1.1 C.1.2.1 hd hv (kk H locs ls hw hS hl)
theorem v_bipush (C : CX g x cc own fr ce sl lc) (q : Nat) {i : Int} (hd : decode cc pc = .ok (.bipush i, 2)) (hq : pc + 2 = q) (v : Int32) (hv : (Int8.ofInt i).toInt32 = v) (kk : VV g x M k n q L (.int v :: rest)) : VV g x M k n pc L (rest) := by
  obtain ⟨p, e, R, s, m, args, below, meth, c, nL, Q⟩ := x
  subst hq
  exact fun H locs ls hw hS hl => lv_bipush C.1.1 C.1.2.1 hd hv (kk H locs ls hw hS hl)
theorem v_sipush (C : CX g x cc own fr ce sl lc) (q : Nat) {i : Int} (hd : decode cc pc = .ok (.sipush i, 3)) (hq : pc + 3 = q) (v : Int32) (hv : (Int16.ofInt i).toInt32 = v) (kk : VV g x M k n q L (.int v :: rest)) : VV g x M k n pc L (rest) := by
  obtain ⟨p, e, R, s, m, args, below, meth, c, nL, Q⟩ := x
  subst hq
  exact fun H locs ls hw hS hl => lv_sipush C.1.1 C.1.2.1 hd hv (kk H locs ls hw hS hl)
theorem v_iload_n (C : CX g x cc own fr ce sl lc) (q : Nat) {i : Fin 4} {v : Int32} (hd : decode cc pc = .ok (.iload_n i, 1)) (hq : pc + 1 = q) (hv : L[(i : Nat)]? = some (some (.int v))) (kk : VV g x M k n q L (.int v :: rest)) : VV g x M k n pc L rest := by
  obtain ⟨p, e, R, s, m, args, below, meth, c, nL, Q⟩ := x
  subst hq
  exact fun H locs ls hw hS hl => lv_iload_n C.1.1 C.1.2.1 hd rfl (hl.at hv) (kk H locs ls hw hS hl)
theorem v_iload (C : CX g x cc own fr ce sl lc) (q : Nat) {i : Nat} {v : Int32} (hd : decode cc pc = .ok (.iload i, 2)) (hq : pc + 2 = q) (hv : L[i]? = some (some (.int v))) (kk : VV g x M k n q L (.int v :: rest)) : VV g x M k n pc L rest := by
  obtain ⟨p, e, R, s, m, args, below, meth, c, nL, Q⟩ := x
  subst hq
  exact fun H locs ls hw hS hl => lv_iload C.1.1 C.1.2.1 hd (hl.at hv) (kk H locs ls hw hS hl)
theorem v_aload_n (C : CX g x cc own fr ce sl lc) (q : Nat) {i : Fin 4} {v : Nat} (hd : decode cc pc = .ok (.aload_n i, 1)) (hq : pc + 1 = q) (hv : L[(i : Nat)]? = some (some (.ref v))) (kk : VV g x M k n q L (.ref v :: rest)) : VV g x M k n pc L rest := by
  obtain ⟨p, e, R, s, m, args, below, meth, c, nL, Q⟩ := x
  subst hq
  exact fun H locs ls hw hS hl => lv_aload_n C.1.1 C.1.2.1 hd rfl (hl.at hv) (kk H locs ls hw hS hl)
theorem v_aload (C : CX g x cc own fr ce sl lc) (q : Nat) {i : Nat} {v : Nat} (hd : decode cc pc = .ok (.aload i, 2)) (hq : pc + 2 = q) (hv : L[i]? = some (some (.ref v))) (kk : VV g x M k n q L (.ref v :: rest)) : VV g x M k n pc L rest := by
  obtain ⟨p, e, R, s, m, args, below, meth, c, nL, Q⟩ := x
  subst hq
  exact fun H locs ls hw hS hl => lv_aload C.1.1 C.1.2.1 hd (hl.at hv) (kk H locs ls hw hS hl)
theorem v_aload_nN (C : CX g x cc own fr ce sl lc) (q : Nat) {i : Fin 4} (hd : decode cc pc = .ok (.aload_n i, 1)) (hq : pc + 1 = q) (hv : L[(i : Nat)]? = some (some .null)) (kk : VV g x M k n q L (.null :: rest)) : VV g x M k n pc L rest := by
  obtain ⟨p, e, R, s, m, args, below, meth, c, nL, Q⟩ := x
  subst hq
  exact fun H locs ls hw hS hl => lv_aload_nN C.1.1 C.1.2.1 hd rfl (hl.at hv) (kk H locs ls hw hS hl)
theorem v_aloadN (C : CX g x cc own fr ce sl lc) (q : Nat) {i : Nat} (hd : decode cc pc = .ok (.aload i, 2)) (hq : pc + 2 = q) (hv : L[i]? = some (some .null)) (kk : VV g x M k n q L (.null :: rest)) : VV g x M k n pc L rest := by
  obtain ⟨p, e, R, s, m, args, below, meth, c, nL, Q⟩ := x
  subst hq
  exact fun H locs ls hw hS hl => lv_aloadN C.1.1 C.1.2.1 hd (hl.at hv) (kk H locs ls hw hS hl)
theorem v_istore_n (C : CX g x cc own fr ce sl lc) (q : Nat) (L2 : List (Option Value)) {i : Fin 4} {v : Int32} (hd : decode cc pc = .ok (.istore_n i, 1)) (hq : pc + 1 = q) (hi : (i : Nat) < L.length) (hL : L.set (i : Nat) (some (.int v)) = L2) (kk : VV g x M k n q L2 rest) : VV g x M k n pc L (.int v :: rest) := by
  obtain ⟨p, e, R, s, m, args, below, meth, c, nL, Q⟩ := x
  subst hq
  subst hL
  exact fun H locs ls hw hS hl => lv_istore_n C.1.1 C.1.2.1 hd rfl hl.1 (hl.2.1 ▸ hi) rfl (fun ls2 h2 => kk H locs ls2 hw hS (lx.put hl.2.1 hl.2.2 rfl (fun _ => rfl) rfl h2))
theorem v_istore (C : CX g x cc own fr ce sl lc) (q : Nat) (L2 : List (Option Value)) {i : Nat} {v : Int32} (hd : decode cc pc = .ok (.istore i, 2)) (hq : pc + 2 = q) (hi : i < L.length) (hL : L.set i (some (.int v)) = L2) (kk : VV g x M k n q L2 rest) : VV g x M k n pc L (.int v :: rest) := by
  obtain ⟨p, e, R, s, m, args, below, meth, c, nL, Q⟩ := x
  subst hq
  subst hL
  exact fun H locs ls hw hS hl => lv_istore C.1.1 C.1.2.1 hd hl.1 (hl.2.1 ▸ hi) rfl (fun ls2 h2 => kk H locs ls2 hw hS (lx.put hl.2.1 hl.2.2 rfl (fun _ => rfl) rfl h2))
theorem v_astore_n (C : CX g x cc own fr ce sl lc) (q : Nat) (L2 : List (Option Value)) {i : Fin 4} {v : Nat} (hd : decode cc pc = .ok (.astore_n i, 1)) (hq : pc + 1 = q) (hi : (i : Nat) < L.length) (hL : L.set (i : Nat) (some (.ref v)) = L2) (kk : VV g x M k n q L2 rest) : VV g x M k n pc L (.ref v :: rest) := by
  obtain ⟨p, e, R, s, m, args, below, meth, c, nL, Q⟩ := x
  subst hq
  subst hL
  exact fun H locs ls hw hS hl => lv_astore_n C.1.1 C.1.2.1 hd rfl hl.1 (hl.2.1 ▸ hi) rfl (fun ls2 h2 => kk H locs ls2 hw hS (lx.put hl.2.1 hl.2.2 rfl (fun _ => rfl) rfl h2))
theorem v_astore (C : CX g x cc own fr ce sl lc) (q : Nat) (L2 : List (Option Value)) {i : Nat} {v : Nat} (hd : decode cc pc = .ok (.astore i, 2)) (hq : pc + 2 = q) (hi : i < L.length) (hL : L.set i (some (.ref v)) = L2) (kk : VV g x M k n q L2 rest) : VV g x M k n pc L (.ref v :: rest) := by
  obtain ⟨p, e, R, s, m, args, below, meth, c, nL, Q⟩ := x
  subst hq
  subst hL
  exact fun H locs ls hw hS hl => lv_astore C.1.1 C.1.2.1 hd hl.1 (hl.2.1 ▸ hi) rfl (fun ls2 h2 => kk H locs ls2 hw hS (lx.put hl.2.1 hl.2.2 rfl (fun _ => rfl) rfl h2))
theorem v_astore_nN (C : CX g x cc own fr ce sl lc) (q : Nat) (L2 : List (Option Value)) {i : Fin 4} (hd : decode cc pc = .ok (.astore_n i, 1)) (hq : pc + 1 = q) (hi : (i : Nat) < L.length) (hL : L.set (i : Nat) (some .null) = L2) (kk : VV g x M k n q L2 rest) : VV g x M k n pc L (.null :: rest) := by
  obtain ⟨p, e, R, s, m, args, below, meth, c, nL, Q⟩ := x
  subst hq
  subst hL
  exact fun H locs ls hw hS hl => lv_astore_nN C.1.1 C.1.2.1 hd rfl hl.1 (hl.2.1 ▸ hi) rfl (fun ls2 h2 => kk H locs ls2 hw hS (lx.put hl.2.1 hl.2.2 rfl (fun _ => rfl) rfl h2))
theorem v_astoreN (C : CX g x cc own fr ce sl lc) (q : Nat) (L2 : List (Option Value)) {i : Nat} (hd : decode cc pc = .ok (.astore i, 2)) (hq : pc + 2 = q) (hi : i < L.length) (hL : L.set i (some .null) = L2) (kk : VV g x M k n q L2 rest) : VV g x M k n pc L (.null :: rest) := by
  obtain ⟨p, e, R, s, m, args, below, meth, c, nL, Q⟩ := x
  subst hq
  subst hL
  exact fun H locs ls hw hS hl => lv_astoreN C.1.1 C.1.2.1 hd hl.1 (hl.2.1 ▸ hi) rfl (fun ls2 h2 => kk H locs ls2 hw hS (lx.put hl.2.1 hl.2.2 rfl (fun _ => rfl) rfl h2))
theorem v_astore_nQ (C : CX g x cc own fr ce sl lc) (q : Nat) (L2 : List (Option Value)) {i : Fin 4} {r : Option Nat} (hd : decode cc pc = .ok (.astore_n i, 1)) (hq : pc + 1 = q) (hi : (i : Nat) < L.length) (hL : L.set (i : Nat) (some (va_rf r)) = L2) (kk : VV g x M k n q L2 rest) : VV g x M k n pc L (va_rf r :: rest) := by
  cases r with
  | none => exact v_astore_nN C q L2 hd hq hi hL kk
  | some a => exact v_astore_n C q L2 hd hq hi hL kk
theorem v_aload_nQ (C : CX g x cc own fr ce sl lc) (q : Nat) {i : Fin 4} {r : Option Nat} (hd : decode cc pc = .ok (.aload_n i, 1)) (hq : pc + 1 = q) (hv : L[(i : Nat)]? = some (some (va_rf r))) (kk : VV g x M k n q L (va_rf r :: rest)) : VV g x M k n pc L rest := by
  cases r with
  | none => exact v_aload_nN C q hd hq hv kk
  | some a => exact v_aload_n C q hd hq hv kk
theorem v_astoreQ (C : CX g x cc own fr ce sl lc) (q : Nat) (L2 : List (Option Value)) {i : Nat} {r : Option Nat} (hd : decode cc pc = .ok (.astore i, 2)) (hq : pc + 2 = q) (hi : i < L.length) (hL : L.set i (some (va_rf r)) = L2) (kk : VV g x M k n q L2 rest) : VV g x M k n pc L (va_rf r :: rest) := by
  cases r with
  | none => exact v_astoreN C q L2 hd hq hi hL kk
  | some a => exact v_astore C q L2 hd hq hi hL kk
theorem v_aloadQ (C : CX g x cc own fr ce sl lc) (q : Nat) {i : Nat} {r : Option Nat} (hd : decode cc pc = .ok (.aload i, 2)) (hq : pc + 2 = q) (hv : L[i]? = some (some (va_rf r))) (kk : VV g x M k n q L (va_rf r :: rest)) : VV g x M k n pc L rest := by
  cases r with
  | none => exact v_aloadN C q hd hq hv kk
  | some a => exact v_aload C q hd hq hv kk
theorem v_iinc (C : CX g x cc own fr ce sl lc) (q : Nat) (L2 : List (Option Value)) {i : Nat} {j : Int} {u : Int32} (v : Int32) (hd : decode cc pc = .ok (.iinc i j, 3)) (hq : pc + 3 = q) (hu : L[i]? = some (some (.int u))) (hv : u + Int32.ofInt j = v) (hL : L.set i (some (.int v)) = L2) (kk : VV g x M k n q L2 rest) : VV g x M k n pc L rest := by
  obtain ⟨p, e, R, s, m, args, below, meth, c, nL, Q⟩ := x
  subst hq
  subst hL
  intro H locs ls hw hS hl
  obtain ⟨w, hw2⟩ := List.getElem?_of_mem ((lx_mem L 0 (i, .int u)).mpr ⟨i, (Nat.zero_add i).symm, hu⟩)
  exact lv_iinc C.1.1 C.1.2.1 hd hl.1 hw2 hv (hl.2.1 ▸ (List.getElem?_eq_some_iff.mp hu).1) rfl (fun ls2 h2 => kk H locs ls2 hw hS (lx.put hl.2.1 hl.2.2 rfl (fun _ => rfl) rfl h2))
theorem v_iadd (C : CX g x cc own fr ce sl lc) (q : Nat) {a b : Int32} (hd : decode cc pc = .ok (.iadd, 1)) (hq : pc + 1 = q) (kk : VV g x M k n q L (.int (a + b) :: rest)) : VV g x M k n pc L (.int b :: .int a :: rest) := by
  obtain ⟨p, e, R, s, m, args, below, meth, c, nL, Q⟩ := x
  subst hq
  exact fun H locs ls hw hS hl => lv_iadd C.1.1 C.1.2.1 hd (kk H locs ls hw hS hl)
theorem v_isub (C : CX g x cc own fr ce sl lc) (q : Nat) {a b : Int32} (hd : decode cc pc = .ok (.isub, 1)) (hq : pc + 1 = q) (kk : VV g x M k n q L (.int (a - b) :: rest)) : VV g x M k n pc L (.int b :: .int a :: rest) := by
  obtain ⟨p, e, R, s, m, args, below, meth, c, nL, Q⟩ := x
  subst hq
  exact fun H locs ls hw hS hl => lv_isub C.1.1 C.1.2.1 hd (kk H locs ls hw hS hl)
theorem v_imul (C : CX g x cc own fr ce sl lc) (q : Nat) {a b : Int32} (hd : decode cc pc = .ok (.imul, 1)) (hq : pc + 1 = q) (kk : VV g x M k n q L (.int (a * b) :: rest)) : VV g x M k n pc L (.int b :: .int a :: rest) := by
  obtain ⟨p, e, R, s, m, args, below, meth, c, nL, Q⟩ := x
  subst hq
  exact fun H locs ls hw hS hl => lv_imul C.1.1 C.1.2.1 hd (kk H locs ls hw hS hl)
theorem v_iand (C : CX g x cc own fr ce sl lc) (q : Nat) {a b : Int32} (hd : decode cc pc = .ok (.iand, 1)) (hq : pc + 1 = q) (kk : VV g x M k n q L (.int (a &&& b) :: rest)) : VV g x M k n pc L (.int b :: .int a :: rest) := by
  obtain ⟨p, e, R, s, m, args, below, meth, c, nL, Q⟩ := x
  subst hq
  exact fun H locs ls hw hS hl => lv_iand C.1.1 C.1.2.1 hd (kk H locs ls hw hS hl)
theorem v_ior (C : CX g x cc own fr ce sl lc) (q : Nat) {a b : Int32} (hd : decode cc pc = .ok (.ior, 1)) (hq : pc + 1 = q) (kk : VV g x M k n q L (.int (a ||| b) :: rest)) : VV g x M k n pc L (.int b :: .int a :: rest) := by
  obtain ⟨p, e, R, s, m, args, below, meth, c, nL, Q⟩ := x
  subst hq
  exact fun H locs ls hw hS hl => lv_ior C.1.1 C.1.2.1 hd (kk H locs ls hw hS hl)
theorem v_ixor (C : CX g x cc own fr ce sl lc) (q : Nat) {a b : Int32} (hd : decode cc pc = .ok (.ixor, 1)) (hq : pc + 1 = q) (kk : VV g x M k n q L (.int (a ^^^ b) :: rest)) : VV g x M k n pc L (.int b :: .int a :: rest) := by
  obtain ⟨p, e, R, s, m, args, below, meth, c, nL, Q⟩ := x
  subst hq
  exact fun H locs ls hw hS hl => lv_ixor C.1.1 C.1.2.1 hd (kk H locs ls hw hS hl)
theorem v_idiv (C : CX g x cc own fr ce sl lc) (q : Nat) {a b : Int32} (hd : decode cc pc = .ok (.idiv, 1)) (hq : pc + 1 = q) (hne : ¬ b = 0) (kk : VV g x M k n q L (.int (a / b) :: rest)) : VV g x M k n pc L (.int b :: .int a :: rest) := by
  obtain ⟨p, e, R, s, m, args, below, meth, c, nL, Q⟩ := x
  subst hq
  exact fun H locs ls hw hS hl => lv_idiv C.1.1 C.1.2.1 hd hne (kk H locs ls hw hS hl)
theorem v_ishr (C : CX g x cc own fr ce sl lc) (q : Nat) {a b : Int32} (hd : decode cc pc = .ok (.ishr, 1)) (hq : pc + 1 = q) (kk : VV g x M k n q L (.int (a >>> (b &&& 31)) :: rest)) : VV g x M k n pc L (.int b :: .int a :: rest) := by
  obtain ⟨p, e, R, s, m, args, below, meth, c, nL, Q⟩ := x
  subst hq
  exact fun H locs ls hw hS hl => lv_ishr C.1.1 C.1.2.1 hd (kk H locs ls hw hS hl)
theorem v_ineg (C : CX g x cc own fr ce sl lc) (q : Nat) {a : Int32} (hd : decode cc pc = .ok (.ineg, 1)) (hq : pc + 1 = q) (kk : VV g x M k n q L (.int (-a) :: rest)) : VV g x M k n pc L (.int a :: rest) := by
  obtain ⟨p, e, R, s, m, args, below, meth, c, nL, Q⟩ := x
  subst hq
  exact fun H locs ls hw hS hl => lv_ineg C.1.1 C.1.2.1 hd (kk H locs ls hw hS hl)
theorem v_dup (C : CX g x cc own fr ce sl lc) (q : Nat) {v : Value} (hd : decode cc pc = .ok (.dup, 1)) (hq : pc + 1 = q) (hv : v.category = 1) (kk : VV g x M k n q L (v :: v :: rest)) : VV g x M k n pc L (v :: rest) := by
  obtain ⟨p, e, R, s, m, args, below, meth, c, nL, Q⟩ := x
  subst hq
  exact fun H locs ls hw hS hl => lv_dup C.1.1 C.1.2.1 hd hv (kk H locs ls hw hS hl)
theorem v_pop (C : CX g x cc own fr ce sl lc) (q : Nat) {v : Value} (hd : decode cc pc = .ok (.pop, 1)) (hq : pc + 1 = q) (hv : v.category = 1) (kk : VV g x M k n q L (rest)) : VV g x M k n pc L (v :: rest) := by
  obtain ⟨p, e, R, s, m, args, below, meth, c, nL, Q⟩ := x
  subst hq
  exact fun H locs ls hw hS hl => lv_pop C.1.1 C.1.2.1 hd hv (kk H locs ls hw hS hl)
theorem v_dup_x1 (C : CX g x cc own fr ce sl lc) (q : Nat) {v w : Value} (hd : decode cc pc = .ok (.dup_x1, 1)) (hq : pc + 1 = q) (hv : v.category = 1) (hv2 : w.category = 1) (kk : VV g x M k n q L (v :: w :: v :: rest)) : VV g x M k n pc L (v :: w :: rest) := by
  obtain ⟨p, e, R, s, m, args, below, meth, c, nL, Q⟩ := x
  subst hq
  exact fun H locs ls hw hS hl => lv_dup_x1 C.1.1 C.1.2.1 hd hv hv2 (kk H locs ls hw hS hl)
theorem v_null (C : CX g x cc own fr ce sl lc) (q : Nat) (hd : decode cc pc = .ok (.aconst_null, 1)) (hq : pc + 1 = q) (kk : VV g x M k n q L (.null :: rest)) : VV g x M k n pc L (rest) := by
  obtain ⟨p, e, R, s, m, args, below, meth, c, nL, Q⟩ := x
  subst hq
  exact fun H locs ls hw hS hl => lv_null C.1.1 C.1.2.1 hd (kk H locs ls hw hS hl)
theorem v_if_eq (C : CX g x cc own fr ce sl lc) (q t : Nat) {a : Int32} {off : Int} (hd : decode cc pc = .ok (.ifCond .eq off, 3)) (hq : pc + 3 = q) (ht : (pc : Int) + off = (t : Int)) (kt : a = 0 → VV g x M k n t L rest) (kf : ¬ a = 0 → VV g x M k n q L rest) : VV g x M k n pc L (.int a :: rest) := by
  obtain ⟨p, e, R, s, m, args, below, meth, c, nL, Q⟩ := x
  subst hq
  exact fun H locs ls hw hS hl => lv_if_eq C.1.1 C.1.2.1 hd ht (fun h => kt h H locs ls hw hS hl) (fun h => kf h H locs ls hw hS hl)
theorem v_icmp_eq (C : CX g x cc own fr ce sl lc) (q t : Nat) {a b : Int32} {off : Int} (hd : decode cc pc = .ok (.if_icmp .eq off, 3)) (hq : pc + 3 = q) (ht : (pc : Int) + off = (t : Int)) (kt : a = b → VV g x M k n t L rest) (kf : ¬ a = b → VV g x M k n q L rest) : VV g x M k n pc L (.int b :: .int a :: rest) := by
  obtain ⟨p, e, R, s, m, args, below, meth, c, nL, Q⟩ := x
  subst hq
  exact fun H locs ls hw hS hl => lv_icmp_eq C.1.1 C.1.2.1 hd ht (fun h => kt h H locs ls hw hS hl) (fun h => kf h H locs ls hw hS hl)
theorem v_if_ne (C : CX g x cc own fr ce sl lc) (q t : Nat) {a : Int32} {off : Int} (hd : decode cc pc = .ok (.ifCond .ne off, 3)) (hq : pc + 3 = q) (ht : (pc : Int) + off = (t : Int)) (kt : ¬ a = 0 → VV g x M k n t L rest) (kf : a = 0 → VV g x M k n q L rest) : VV g x M k n pc L (.int a :: rest) := by
  obtain ⟨p, e, R, s, m, args, below, meth, c, nL, Q⟩ := x
  subst hq
  exact fun H locs ls hw hS hl => lv_if_ne C.1.1 C.1.2.1 hd ht (fun h => kt h H locs ls hw hS hl) (fun h => kf h H locs ls hw hS hl)
theorem v_icmp_ne (C : CX g x cc own fr ce sl lc) (q t : Nat) {a b : Int32} {off : Int} (hd : decode cc pc = .ok (.if_icmp .ne off, 3)) (hq : pc + 3 = q) (ht : (pc : Int) + off = (t : Int)) (kt : ¬ a = b → VV g x M k n t L rest) (kf : a = b → VV g x M k n q L rest) : VV g x M k n pc L (.int b :: .int a :: rest) := by
  obtain ⟨p, e, R, s, m, args, below, meth, c, nL, Q⟩ := x
  subst hq
  exact fun H locs ls hw hS hl => lv_icmp_ne C.1.1 C.1.2.1 hd ht (fun h => kt h H locs ls hw hS hl) (fun h => kf h H locs ls hw hS hl)
theorem v_if_lt (C : CX g x cc own fr ce sl lc) (q t : Nat) {a : Int32} {off : Int} (hd : decode cc pc = .ok (.ifCond .lt off, 3)) (hq : pc + 3 = q) (ht : (pc : Int) + off = (t : Int)) (kt : a < 0 → VV g x M k n t L rest) (kf : ¬ a < 0 → VV g x M k n q L rest) : VV g x M k n pc L (.int a :: rest) := by
  obtain ⟨p, e, R, s, m, args, below, meth, c, nL, Q⟩ := x
  subst hq
  exact fun H locs ls hw hS hl => lv_if_lt C.1.1 C.1.2.1 hd ht (fun h => kt h H locs ls hw hS hl) (fun h => kf h H locs ls hw hS hl)
theorem v_icmp_lt (C : CX g x cc own fr ce sl lc) (q t : Nat) {a b : Int32} {off : Int} (hd : decode cc pc = .ok (.if_icmp .lt off, 3)) (hq : pc + 3 = q) (ht : (pc : Int) + off = (t : Int)) (kt : a < b → VV g x M k n t L rest) (kf : ¬ a < b → VV g x M k n q L rest) : VV g x M k n pc L (.int b :: .int a :: rest) := by
  obtain ⟨p, e, R, s, m, args, below, meth, c, nL, Q⟩ := x
  subst hq
  exact fun H locs ls hw hS hl => lv_icmp_lt C.1.1 C.1.2.1 hd ht (fun h => kt h H locs ls hw hS hl) (fun h => kf h H locs ls hw hS hl)
theorem v_if_ge (C : CX g x cc own fr ce sl lc) (q t : Nat) {a : Int32} {off : Int} (hd : decode cc pc = .ok (.ifCond .ge off, 3)) (hq : pc + 3 = q) (ht : (pc : Int) + off = (t : Int)) (kt : 0 ≤ a → VV g x M k n t L rest) (kf : ¬ 0 ≤ a → VV g x M k n q L rest) : VV g x M k n pc L (.int a :: rest) := by
  obtain ⟨p, e, R, s, m, args, below, meth, c, nL, Q⟩ := x
  subst hq
  exact fun H locs ls hw hS hl => lv_if_ge C.1.1 C.1.2.1 hd ht (fun h => kt h H locs ls hw hS hl) (fun h => kf h H locs ls hw hS hl)
theorem v_icmp_ge (C : CX g x cc own fr ce sl lc) (q t : Nat) {a b : Int32} {off : Int} (hd : decode cc pc = .ok (.if_icmp .ge off, 3)) (hq : pc + 3 = q) (ht : (pc : Int) + off = (t : Int)) (kt : b ≤ a → VV g x M k n t L rest) (kf : ¬ b ≤ a → VV g x M k n q L rest) : VV g x M k n pc L (.int b :: .int a :: rest) := by
  obtain ⟨p, e, R, s, m, args, below, meth, c, nL, Q⟩ := x
  subst hq
  exact fun H locs ls hw hS hl => lv_icmp_ge C.1.1 C.1.2.1 hd ht (fun h => kt h H locs ls hw hS hl) (fun h => kf h H locs ls hw hS hl)
theorem v_if_gt (C : CX g x cc own fr ce sl lc) (q t : Nat) {a : Int32} {off : Int} (hd : decode cc pc = .ok (.ifCond .gt off, 3)) (hq : pc + 3 = q) (ht : (pc : Int) + off = (t : Int)) (kt : 0 < a → VV g x M k n t L rest) (kf : ¬ 0 < a → VV g x M k n q L rest) : VV g x M k n pc L (.int a :: rest) := by
  obtain ⟨p, e, R, s, m, args, below, meth, c, nL, Q⟩ := x
  subst hq
  exact fun H locs ls hw hS hl => lv_if_gt C.1.1 C.1.2.1 hd ht (fun h => kt h H locs ls hw hS hl) (fun h => kf h H locs ls hw hS hl)
theorem v_icmp_gt (C : CX g x cc own fr ce sl lc) (q t : Nat) {a b : Int32} {off : Int} (hd : decode cc pc = .ok (.if_icmp .gt off, 3)) (hq : pc + 3 = q) (ht : (pc : Int) + off = (t : Int)) (kt : b < a → VV g x M k n t L rest) (kf : ¬ b < a → VV g x M k n q L rest) : VV g x M k n pc L (.int b :: .int a :: rest) := by
  obtain ⟨p, e, R, s, m, args, below, meth, c, nL, Q⟩ := x
  subst hq
  exact fun H locs ls hw hS hl => lv_icmp_gt C.1.1 C.1.2.1 hd ht (fun h => kt h H locs ls hw hS hl) (fun h => kf h H locs ls hw hS hl)
theorem v_if_le (C : CX g x cc own fr ce sl lc) (q t : Nat) {a : Int32} {off : Int} (hd : decode cc pc = .ok (.ifCond .le off, 3)) (hq : pc + 3 = q) (ht : (pc : Int) + off = (t : Int)) (kt : a ≤ 0 → VV g x M k n t L rest) (kf : ¬ a ≤ 0 → VV g x M k n q L rest) : VV g x M k n pc L (.int a :: rest) := by
  obtain ⟨p, e, R, s, m, args, below, meth, c, nL, Q⟩ := x
  subst hq
  exact fun H locs ls hw hS hl => lv_if_le C.1.1 C.1.2.1 hd ht (fun h => kt h H locs ls hw hS hl) (fun h => kf h H locs ls hw hS hl)
theorem v_icmp_le (C : CX g x cc own fr ce sl lc) (q t : Nat) {a b : Int32} {off : Int} (hd : decode cc pc = .ok (.if_icmp .le off, 3)) (hq : pc + 3 = q) (ht : (pc : Int) + off = (t : Int)) (kt : a ≤ b → VV g x M k n t L rest) (kf : ¬ a ≤ b → VV g x M k n q L rest) : VV g x M k n pc L (.int b :: .int a :: rest) := by
  obtain ⟨p, e, R, s, m, args, below, meth, c, nL, Q⟩ := x
  subst hq
  exact fun H locs ls hw hS hl => lv_icmp_le C.1.1 C.1.2.1 hd ht (fun h => kt h H locs ls hw hS hl) (fun h => kf h H locs ls hw hS hl)
theorem v_goto (C : CX g x cc own fr ce sl lc) (q : Nat) {off : Int} (hd : decode cc pc = .ok (.goto off, 3)) (hq : (pc : Int) + off = (q : Int)) (kk : VV g x M k n q L rest) : VV g x M k n pc L rest := by
  obtain ⟨p, e, R, s, m, args, below, meth, c, nL, Q⟩ := x
  exact fun H locs ls hw hS hl => lv_goto C.1.1 C.1.2.1 hd hq (kk H locs ls hw hS hl)
theorem v_ifnull (C : CX g x cc own fr ce sl lc) (q t : Nat) {off : Int} {r : Option Nat} (hd : decode cc pc = .ok (.ifnull off, 3)) (hq : pc + 3 = q) (ht : (pc : Int) + off = (t : Int)) (kt : r = none → VV g x M k n t L rest) (kf : ∀ a : Nat, r = some a → VV g x M k n q L rest) : VV g x M k n pc L (va_rf r :: rest) := by
  obtain ⟨p, e, R, s, m, args, below, meth, c, nL, Q⟩ := x
  subst hq
  cases r with
  | none => exact fun H locs ls hw hS hl => lv_ifnullN C.1.1 C.1.2.1 hd ht (kt rfl H locs ls hw hS hl)
  | some a => exact fun H locs ls hw hS hl => lv_ifnull C.1.1 C.1.2.1 hd (kf a rfl H locs ls hw hS hl)
theorem v_ifnonnull (C : CX g x cc own fr ce sl lc) (q t : Nat) {off : Int} {r : Option Nat} (hd : decode cc pc = .ok (.ifnonnull off, 3)) (hq : pc + 3 = q) (ht : (pc : Int) + off = (t : Int)) (kt : ∀ a : Nat, r = some a → VV g x M k n t L rest) (kf : r = none → VV g x M k n q L rest) : VV g x M k n pc L (va_rf r :: rest) := by
  obtain ⟨p, e, R, s, m, args, below, meth, c, nL, Q⟩ := x
  subst hq
  cases r with
  | none => exact fun H locs ls hw hS hl => lv_ifnonnullN C.1.1 C.1.2.1 hd (kf rfl H locs ls hw hS hl)
  | some a => exact fun H locs ls hw hS hl => lv_ifnonnull C.1.1 C.1.2.1 hd ht (kt a rfl H locs ls hw hS hl)
theorem v_top (v w : Value) (h : v = w) (kk : VV g x M k n pc L (w :: rest)) : VV g x M k n pc L (v :: rest) := h ▸ kk
theorem v_eqL (L2 : List (Option Value)) (h : L = L2) (kk : VV g x M k n pc L2 rest) : VV g x M k n pc L rest := h ▸ kk
theorem v_eqM (M2 : mp_M) (h : M = M2) (kk : VV g x M2 k n pc L rest) : VV g x M k n pc L rest := h ▸ kk
theorem v_widen {k2 n2 : Nat} (h1 : k ≤ k2) (h2 : n ≤ n2) (kk : VV g x M k2 n2 pc L rest) : VV g x M k n pc L rest := by
  obtain ⟨p, e, R, s, m, args, below, meth, c, nL, Q⟩ := x
  exact fun H locs ls hw hS hl => W.widen h1 h2 (kk H locs ls hw hS hl)
theorem v_sub (M2 : mp_M) (h : ∀ (q : Nat) (e : va_E), M2 q = some e → M q = some e) (kk : VV g x M2 k n pc L rest) : VV g x M k n pc L rest := by
  obtain ⟨p, e, R, s, m, args, below, meth, c, nL, Q⟩ := x
  exact fun H locs ls hw hS hl => kk H locs ls ⟨hw.1, hw.2.choose, hw.2.choose_spec.1, hw.2.choose_spec.2.1, fun q e hq => hw.2.choose_spec.2.2 q e (h q e hq)⟩ hS hl
end VROWS
section VHEAP
variable {g : gx_T} {x : cx_T} {cc : ByteArray} {own : String} {fr ce sl lc : Nat} {M : mp_M} {k n pc : Nat} {L : List (Option Value)} {rest : List Value}
def fl_ok (ref : String) (t : String × String × String × Bool) : Prop := ref = t.1 ∨ Cond.sameField ref t.1 t.2.1 t.2.2.1 ∈ AL
theorem fl_use {ref : String} {t : String × String × String × Bool} {args : Array Value} {s : State} (h : fl_ok ref t) (hts : ∀ w ∈ AL, w.before args s = true) : ∀ y, s.fieldFound? t.1 t.2.1 t.2.2.1 = some y → s.fieldFound? ref t.2.1 t.2.2.1 = some y := by
  rcases h with h | h
  · subst h
    exact fun _ h9 => h9
  · exact fun y h9 => u_same (hts _ h) y h9
theorem v_get (C : CX g x cc own fr ce sl lc) (q : Nat) {ref Cn : String} {T : u_T} {N ci idx a : Nat} {fs : List Value} {v : Value} (hin : ∀ w ∈ u_ws Cn T N, w ∈ AL) (hc : vwCl[ci]? = some (Cn, T, N)) (j : Nat) (hj : j < N) (hlk : Cond.fieldLink own idx ref (T j).2.1 (T j).2.2.1 ∈ AL) (hs : fl_ok ref (T j)) (hd : decode cc pc = .ok (.getfield idx, 3)) (hq : pc + 3 = q) (hM : M a = some (.inr (ci, fs))) (hv : fs[j]? = some v) (kk : VV g x M k n q L (v :: rest)) : VV g x M k n pc L (.ref a :: rest) := by
  obtain ⟨p, e, R, s, m, args, below, meth, c, nL, Q⟩ := x
  subst hq
  obtain ⟨⟨hx, hb, hml, hown, hts⟩, hK, -, -⟩ := C
  intro H locs ls hw hS hl
  obtain ⟨-, ws, hP, hD, hm⟩ := id hw
  obtain ⟨q0, hq0⟩ := hm _ _ hM
  exact va_get hx hb hts hin hown hK.1 hP q0 hq0 hc j hj (hts _ hlk) (fl_use hs hts) hv hd (kk H locs ls hw hS hl)
theorem v_put (C : CX g x cc own fr ce sl lc) (q : Nat) {ref Cn : String} {T : u_T} {N ci idx a : Nat} {fs : List Value} {v : Value} (hin : ∀ w ∈ u_ws Cn T N, w ∈ AL) (ty0 : Nat → FieldType) (hty : ∀ k, k < N → parseFieldDescriptor (T k).2.2.1 = some (ty0 k)) (hnm : ∀ a, a < N → ∀ b, b < N → a ≠ b → (T a).2.1 ≠ (T b).2.1) (hc : vwCl[ci]? = some (Cn, T, N)) (j : Nat) (hj : j < N) (hlk : Cond.fieldLink own idx ref (T j).2.1 (T j).2.2.1 ∈ AL) (hs : fl_ok ref (T j)) (hfin : (T j).2.2.2 = false) {ty : FieldType} (hdz : parseFieldDescriptor (T j).2.2.1 = some ty) (hd : decode cc pc = .ok (.putfield idx, 3)) (hq : pc + 3 = q) (hn : narrow ty v = v) (hfit : fits ty v = true) (hM : M a = some (.inr (ci, fs))) (hl2 : j < fs.length) (fs2 : List Value) (hfs : fs.set j v = fs2) (kk : VV g x (mp_u M a (.inr (ci, fs2))) k n q L rest) : VV g x M k n pc L (v :: .ref a :: rest) := by
  obtain ⟨p, e, R, s, m, args, below, meth, c, nL, Q⟩ := x
  subst hq
  subst hfs
  obtain ⟨⟨hx, hb, hml, hown, hts⟩, hK, -, hz⟩ := C
  intro H locs ls hw hS hl
  obtain ⟨-, ws, hP, hD, hm⟩ := id hw
  obtain ⟨q0, hq0⟩ := hm _ _ hM
  exact va_put hx hb hts hin ty0 hty hnm hown hK.1 hP hD hS q0 hq0 hc j hj (hts _ hlk) (fl_use hs hts) hfin hdz hn hfit hl2 hd (fun H1 locs1 hP1 hD1 hS1 => kk H1 locs1 ls ⟨Nat.le_trans hz hS1.1, _, hP1, hD1, mp_set hD hm hq0⟩ hS1 hl)
theorem v_putF (C : CX g x cc own fr ce sl lc) (I : IX x) (q : Nat) {ref Cn : String} {T : u_T} {N ci idx a : Nat} {fs : List Value} {v : Value} (hin : ∀ w ∈ u_ws Cn T N, w ∈ AL) (ty0 : Nat → FieldType) (hty : ∀ k, k < N → parseFieldDescriptor (T k).2.2.1 = some (ty0 k)) (hnm : ∀ a, a < N → ∀ b, b < N → a ≠ b → (T a).2.1 ≠ (T b).2.1) (hc : vwCl[ci]? = some (Cn, T, N)) (j : Nat) (hj : j < N) (hlk : Cond.fieldLink own idx ref (T j).2.1 (T j).2.2.1 ∈ AL) (hs : fl_ok ref (T j)) (hfin : (T j).2.2.2 = true) (hdecl : (T j).1 = own) {ty : FieldType} (hdz : parseFieldDescriptor (T j).2.2.1 = some ty) (hd : decode cc pc = .ok (.putfield idx, 3)) (hq : pc + 3 = q) (hn : narrow ty v = v) (hfit : fits ty v = true) (hM : M a = some (.inr (ci, fs))) (hl2 : j < fs.length) (fs2 : List Value) (hfs : fs.set j v = fs2) (kk : VV g x (mp_u M a (.inr (ci, fs2))) k n q L rest) : VV g x M k n pc L (v :: .ref a :: rest) := by
  obtain ⟨p, e, R, s, m, args, below, meth, c, nL, Q⟩ := x
  subst hq
  subst hfs
  obtain ⟨⟨hx, hb, hml, hown, hts⟩, hK, -, hz⟩ := C
  intro H locs ls hw hS hl
  obtain ⟨-, ws, hP, hD, hm⟩ := id hw
  obtain ⟨q0, hq0⟩ := hm _ _ hM
  exact va_putF hx hb hts hin ty0 hty hnm hown hK.1 hP hD hS q0 hq0 hc j hj (hts _ hlk) (fl_use hs hts) hfin I hdecl hdz hn hfit hl2 hd (fun H1 locs1 hP1 hD1 hS1 => kk H1 locs1 ls ⟨Nat.le_trans hz hS1.1, _, hP1, hD1, mp_set hD hm hq0⟩ hS1 hl)
theorem v_new (C : CX g x cc own fr ce sl lc) (q : Nat) {Cn : String} {T : u_T} {N ci idx : Nat} (hin : ∀ w ∈ u_ws Cn T N, w ∈ AL) (ty0 : Nat → FieldType) (hty : ∀ k, k < N → parseFieldDescriptor (T k).2.2.1 = some (ty0 k)) (hc : vwCl[ci]? = some (Cn, T, N)) (hlk : Cond.classLink own idx Cn ∈ AL) (hin2 : Cond.instantiable Cn N ∈ AL) (hini : Cond.initialized Cn ∈ AL) {fs : List Value} (hfs : ∀ j, j < N → defaultValue (ty0 j) = vp_V fs j) (hd : decode cc pc = .ok (.new idx, 3)) (hq : pc + 3 = q) (hcells : k + 1 ≤ ce) (hslots : n + N ≤ sl) (kk : ∀ a : Nat, M a = none → VV g x (mp_u M a (.inr (ci, fs))) (k + 1) (n + N) q L (.ref a :: rest)) : VV g x M k n pc L rest := by
  obtain ⟨p, e, R, s, m, args, below, meth, c, nL, Q⟩ := x
  subst hq
  obtain ⟨⟨hx, hb, hml, hown, hts⟩, hK, hR, hz⟩ := C
  subst hR
  intro H locs ls hw hS hl
  obtain ⟨-, ws, hP, hD, hm⟩ := id hw
  refine va_new hx hb hts hin ty0 hty hown (hts _ hlk) (hts _ hin2) (hts _ hini) hK.1 hP hD hS (fun q h => Nat.le_trans hz h) hc hfs hcells hslots hd (fun a H1 hP1 hD1 hS1 => ?_)
  obtain ⟨h1, h2⟩ := mp_push hD1 hm
  exact kk a h1 H1 locs ls ⟨Nat.le_trans hz hS1.1, _, hP1, hD1, h2⟩ hS1 hl
theorem v_alen (C : CX g x cc own fr ce sl lc) (q : Nat) (t0 : Nat) {a N : Nat} {cA : ClassId} {y : (Nat → Int32) ⊕ (Nat → Int64) ⊕ (Nat → UInt32) ⊕ (Nat → UInt64) ⊕ (Nat → Option Nat)} {ty : FieldType} (ht : (gx_t g)[t0]? = some (cA, ty)) (hd : decode cc pc = .ok (.arraylength, 1)) (hq : pc + 1 = q) (hM : M a = some (.inl (cA, N, y))) (kk : VV g x M k n q L (.int (nI N) :: rest)) : VV g x M k n pc L (.ref a :: rest) := by
  obtain ⟨p, e, R, s, m, args, below, meth, c, nL, Q⟩ := x
  subst hq
  obtain ⟨⟨hx, hb, hml, hown, hts⟩, hK, -, hz⟩ := C
  intro H locs ls hw hS hl
  obtain ⟨-, ws, hP, hD, hm⟩ := id hw
  obtain ⟨q0, hq0⟩ := hm _ _ hM
  exact va_alen hx hb hK.1 hP q0 t0 hq0 ht rfl hd (kk H locs ls hw hS hl)
theorem v_aald (C : CX g x cc own fr ce sl lc) (q : Nat) (t0 : Nat) {a N : Nat} {cA : ClassId} {Cn : String} {f : Nat → Option Nat} {i : Int32} (ht : (gx_t g)[t0]? = some (cA, .object Cn)) (hd : decode cc pc = .ok (.aaload, 1)) (hq : pc + 1 = q) (hM : M a = some (.inl (cA, N, .inr (.inr (.inr (.inr f)))))) (j : Nat) (hi : i = nI j) (hj : j < N) (hN : N < 2 ^ 31) (kk : VV g x M k n q L (va_rf (f j) :: rest)) : VV g x M k n pc L (.int i :: .ref a :: rest) := by
  obtain ⟨p, e, R, s, m, args, below, meth, c, nL, Q⟩ := x
  subst hq
  subst hi
  obtain ⟨⟨hx, hb, hml, hown, hts⟩, hK, -, hz⟩ := C
  intro H locs ls hw hS hl
  obtain ⟨-, ws, hP, hD, hm⟩ := id hw
  obtain ⟨q0, hq0⟩ := hm _ _ hM
  refine va_aldq hx hb hK.1 hP q0 t0 hq0 ht (vp_in_nI hj hN) hd ?_
  rw [nI_clamp (Nat.lt_trans hj hN)]
  exact kk H locs ls hw hS hl
theorem v_iald (C : CX g x cc own fr ce sl lc) (q : Nat) {a N : Nat} {f : Nat → Int32} {i : Int32} (hd : decode cc pc = .ok (.iaload, 1)) (hq : pc + 1 = q) (hM : M a = some (.inl (gx_I g, N, .inl f))) (j : Nat) (hi : i = nI j) (hj : j < N) (hN : N < 2 ^ 31) (kk : VV g x M k n q L (.int (f j) :: rest)) : VV g x M k n pc L (.int i :: .ref a :: rest) := by
  obtain ⟨p, e, R, s, m, args, below, meth, c, nL, Q⟩ := x
  subst hq
  subst hi
  obtain ⟨⟨hx, hb, hml, hown, hts⟩, hK, -, hz⟩ := C
  intro H locs ls hw hS hl
  obtain ⟨-, ws, hP, hD, hm⟩ := id hw
  obtain ⟨q0, hq0⟩ := hm _ _ hM
  refine va_iald hx hb hK.1 hP q0 2 hq0 rfl (vp_in_nI hj hN) hd ?_
  rw [nI_clamp (Nat.lt_trans hj hN)]
  exact kk H locs ls hw hS hl
theorem v_iast (C : CX g x cc own fr ce sl lc) (q : Nat) {a N : Nat} {f : Nat → Int32} {i v : Int32} (hd : decode cc pc = .ok (.iastore, 1)) (hq : pc + 1 = q) (hM : M a = some (.inl (gx_I g, N, .inl f))) (j : Nat) (hi : i = nI j) (hj : j < N) (hN : N < 2 ^ 31) (kk : VV g x (mp_u M a (.inl (gx_I g, N, .inl (upd f j v)))) k n q L rest) : VV g x M k n pc L (.int v :: .int i :: .ref a :: rest) := by
  obtain ⟨p, e, R, s, m, args, below, meth, c, nL, Q⟩ := x
  subst hq
  subst hi
  obtain ⟨⟨hx, hb, hml, hown, hts⟩, hK, -, hz⟩ := C
  intro H locs ls hw hS hl
  obtain ⟨-, ws, hP, hD, hm⟩ := id hw
  obtain ⟨q0, hq0⟩ := hm _ _ hM
  refine va_iast hx hb hK.1 hP hD hS q0 2 hq0 rfl (vp_in_nI hj hN) hd (fun H1 locs1 hP1 hD1 hS1 => ?_)
  rw [nI_clamp (Nat.lt_trans hj hN)] at hP1 hD1
  exact kk H1 locs1 ls ⟨Nat.le_trans hz hS1.1, _, hP1, hD1, mp_set hD hm hq0⟩ hS1 hl
theorem v_aastN (C : CX g x cc own fr ce sl lc) (q : Nat) (t0 : Nat) {a N : Nat} {cA : ClassId} {Cn : String} {f : Nat → Option Nat} {i : Int32} (ht : (gx_t g)[t0]? = some (cA, .object Cn)) (hd : decode cc pc = .ok (.aastore, 1)) (hq : pc + 1 = q) (hM : M a = some (.inl (cA, N, .inr (.inr (.inr (.inr f)))))) (j : Nat) (hi : i = nI j) (hj : j < N) (hN : N < 2 ^ 31) (kk : VV g x (mp_u M a (.inl (cA, N, .inr (.inr (.inr (.inr (va_up f j none))))))) k n q L rest) : VV g x M k n pc L (.null :: .int i :: .ref a :: rest) := by
  obtain ⟨p, e, R, s, m, args, below, meth, c, nL, Q⟩ := x
  subst hq
  subst hi
  obtain ⟨⟨hx, hb, hml, hown, hts⟩, hK, -, hz⟩ := C
  intro H locs ls hw hS hl
  obtain ⟨-, ws, hP, hD, hm⟩ := id hw
  obtain ⟨q0, hq0⟩ := hm _ _ hM
  refine va_astqN hx hb hK.1 hP hD hS q0 t0 hq0 ht (vp_in_nI hj hN) hd (fun H1 locs1 hP1 hD1 hS1 => ?_)
  rw [nI_clamp (Nat.lt_trans hj hN)] at hP1 hD1
  exact kk H1 locs1 ls ⟨Nat.le_trans hz hS1.1, _, hP1, hD1, mp_set hD hm hq0⟩ hS1 hl
theorem v_aast (C : CX g x cc own fr ce sl lc) (q : Nat) (t0 ci : Nat) {a b N : Nat} {cA : ClassId} {r : vw_C} {vs : List Value} {f : Nat → Option Nat} {i : Int32} (ht : (gx_t g)[t0]? = some (cA, .object r.1)) (hc : vwCl[ci]? = some r) (hd : decode cc pc = .ok (.aastore, 1)) (hq : pc + 1 = q) (hM : M a = some (.inl (cA, N, .inr (.inr (.inr (.inr f)))))) (hb2 : M b = some (.inr (ci, vs))) (j : Nat) (hi : i = nI j) (hj : j < N) (hN : N < 2 ^ 31) (kk : VV g x (mp_u M a (.inl (cA, N, .inr (.inr (.inr (.inr (va_up f j (some b)))))))) k n q L rest) : VV g x M k n pc L (.ref b :: .int i :: .ref a :: rest) := by
  obtain ⟨p, e, R, s, m, args, below, meth, c, nL, Q⟩ := x
  subst hq
  subst hi
  obtain ⟨⟨hx, hb, hml, hown, hts⟩, hK, -, hz⟩ := C
  intro H locs ls hw hS hl
  obtain ⟨-, ws, hP, hD, hm⟩ := id hw
  obtain ⟨q0, hq0⟩ := hm _ _ hM
  obtain ⟨q1, hq1⟩ := hm _ _ hb2
  refine va_astq hx hb hK.1 hP hD hS q0 t0 q1 ci hq0 ht hq1 hc (vp_in_nI hj hN) hd (fun H1 locs1 hP1 hD1 hS1 => ?_)
  rw [nI_clamp (Nat.lt_trans hj hN)] at hP1 hD1
  exact kk H1 locs1 ls ⟨Nat.le_trans hz hS1.1, _, hP1, hD1, mp_set hD hm hq0⟩ hS1 hl
theorem v_newi (C : CX g x cc own fr ce sl lc) (q : Nat) {i : Int32} (harr : Cond.arrayClass .int ∈ AL) (hd : decode cc pc = .ok (.newarray .int, 2)) (hq : pc + 2 = q) (N : Nat) (hi : i = nI N) (hN : N < 100000) (hcells : k + 1 ≤ ce) (hslots : n + N ≤ sl) (kk : ∀ a : Nat, M a = none → VV g x (mp_u M a (.inl (gx_I g, N, .inl (fun _ => 0)))) (k + 1) (n + N) q L (.ref a :: rest)) : VV g x M k n pc L (.int i :: rest) := by
  obtain ⟨p, e, R, s, m, args, below, meth, c, nL, Q⟩ := x
  subst hq
  subst hi
  obtain ⟨⟨hx, hb, hml, hown, hts⟩, hK, hR, hz⟩ := C
  subst hR
  intro H locs ls hw hS hl
  obtain ⟨-, ws, hP, hD, hm⟩ := id hw
  refine va_newa (atype := .int) (a0 := (N, .inl (fun _ => 0))) hx hb (hts _ harr) (ty := .int) rfl hK.1 hP hD hS (fun q h => Nat.le_trans hz h) (fun cA => rfl) (nI_pos (by omega)) (nI_clamp (by omega)) (by show N * 4 ≤ _; omega) hcells hslots hd (fun a cB H1 hK1 hP1 hD1 hS1 => ?_)
  have hcA : cB = gx_I g := by
    have g1 := (hK1.2 (gx_t g).length (cB, .int) (by rw [List.getElem?_append_right (Nat.le_refl _), Nat.sub_self]; rfl)).2
    have g2 := (hK.1.2 2 _ rfl).2
    exact Option.some.inj (g1.symm.trans g2)
  subst hcA
  obtain ⟨h1, h2⟩ := mp_push hD1 hm
  exact kk a h1 H1 locs ls ⟨Nat.le_trans hz hS1.1, _, hP1, hD1, h2⟩ hS1 hl
theorem v_newq (C : CX g x cc own fr ce sl lc) (q : Nat) (t0 : Nat) {i : Int32} {cA : ClassId} {Cn : String} {idx : Nat} (ht : (gx_t g)[t0]? = some (cA, .object Cn)) (hao : ∀ s, mp_K g s → va_AO Cn s) (hlk : Cond.classLink own idx Cn ∈ AL) (hd : decode cc pc = .ok (.anewarray idx, 3)) (hq : pc + 3 = q) (N : Nat) (hi : i = nI N) (hN : N < 100000) (hcells : k + 1 ≤ ce) (hslots : n + N ≤ sl) (kk : ∀ a : Nat, M a = none → VV g x (mp_u M a (.inl (cA, N, .inr (.inr (.inr (.inr (fun _ => none))))))) (k + 1) (n + N) q L (.ref a :: rest)) : VV g x M k n pc L (.int i :: rest) := by
  obtain ⟨p, e, R, s, m, args, below, meth, c, nL, Q⟩ := x
  subst hq
  subst hi
  obtain ⟨⟨hx, hb, hml, hown, hts⟩, hK, hR, hz⟩ := C
  subst hR
  intro H locs ls hw hS hl
  obtain ⟨-, ws, hP, hD, hm⟩ := id hw
  refine va_newq hx hb hown (hts _ hlk) (hao s hK) hK.1 hP hD hS (fun q h => Nat.le_trans hz h) (nI_pos (by omega)) (nI_clamp (by omega)) (by omega) hcells hslots hd (fun a cB H1 hK1 hP1 hD1 hS1 => ?_)
  have hcA : cB = cA := by
    have g1 := (hK1.2 (gx_t g).length (cB, .object Cn) (by rw [List.getElem?_append_right (Nat.le_refl _), Nat.sub_self]; rfl)).2
    have g2 := (hK.1.2 t0 _ ht).2
    obtain ⟨_, _, _, _, _, e1⟩ := g1
    obtain ⟨_, _, _, _, _, e2⟩ := g2
    exact Option.some.inj (e1.symm.trans e2)
  subst hcA
  obtain ⟨h1, h2⟩ := mp_push hD1 hm
  exact kk a h1 H1 locs ls ⟨Nat.le_trans hz hS1.1, _, hP1, hD1, h2⟩ hS1 hl
theorem v_tableOut (C : CX g x cc own fr ce sl lc) (t : Nat) {dflt lo hi : Int} {offs : Array Int} {len : Nat} {v : Int32} (hd : decode cc pc = .ok (.tableswitch dflt lo hi offs, len)) (h : v.toInt < lo ∨ hi < v.toInt) (ht : (pc : Int) + dflt = (t : Int)) (kk : VV g x M k n t L rest) : VV g x M k n pc L (.int v :: rest) := by
  obtain ⟨p, e, R, s, m, args, below, meth, c, nL, Q⟩ := x
  exact fun H locs ls hw hS hl => lv_tableOut C.1.1 C.1.2.1 hd h ht (kk H locs ls hw hS hl)
theorem v_tableIn (C : CX g x cc own fr ce sl lc) (t : Nat) {dflt lo hi : Int} {offs : Array Int} {len : Nat} {v : Int32} {off : Int} (hd : decode cc pc = .ok (.tableswitch dflt lo hi offs, len)) (h1 : ¬ v.toInt < lo) (h2 : ¬ hi < v.toInt) (ho : offs[(v.toInt - lo).toNat]? = some off) (ht : (pc : Int) + off = (t : Int)) (kk : VV g x M k n t L rest) : VV g x M k n pc L (.int v :: rest) := by
  obtain ⟨p, e, R, s, m, args, below, meth, c, nL, Q⟩ := x
  exact fun H locs ls hw hS hl => lv_tableIn C.1.1 C.1.2.1 hd h1 h2 ho ht (kk H locs ls hw hS hl)
theorem v_ldc (C : CX g x cc own fr ce sl lc) (q : Nat) {idx : Nat} {v : Int32} (hc : Cond.constant own idx v ∈ AL) (hd : decode cc pc = .ok (.ldc idx, 2)) (hq : pc + 2 = q) (kk : VV g x M k n q L (.int v :: rest)) : VV g x M k n pc L rest := by
  obtain ⟨p, e, R, s, m, args, below, meth, c, nL, Q⟩ := x
  subst hq
  exact fun H locs ls hw hS hl => lv_ldc C.1.1 C.1.2.1 C.1.2.2.2.1 (C.1.2.2.2.2 _ hc) hd (kk H locs ls hw hS hl)
theorem v_objInit (C : CX g x cc own fr ce sl lc) (q : Nat) {idx a : Nat} (hlk : Cond.methodLink own idx Lib.objectInit ∈ AL) (hin : Cond.instanceMethod Lib.objectInit ∈ AL) (hco : Cond.code Lib.objectInit ⟨#[0xb1]⟩ 1 none ∈ AL) (hd : decode cc pc = .ok (.invokespecial idx, 3)) (hq : pc + 3 = q) (hfr : 1 ≤ fr) (hlo : (rest.map fun v => v.category).sum + 12 ≤ lc) (kk : VV g x M k n q L rest) : VV g x M k n pc L (.ref a :: rest) := by
  obtain ⟨p, e, R, s, m, args, below, meth, c, nL, Q⟩ := x
  subst hq
  obtain ⟨⟨hx, hb, hml, hown, hts⟩, hK, hR, hz⟩ := C
  subst hR
  intro H locs ls hw hS hl
  refine W.objInit hx hb hown (hts _ hlk) (hts _ hin) (hts _ hco) rfl (by rw [hml]; exact hl.1.1) rfl hd hfr (by show 2 * 0 + _ + 12 ≤ lc; omega) ?_
  exact kk H locs ls hw hS hl
theorem v_max (C : CX g x cc own fr ce sl lc) (q : Nat) {idx : Nat} {a b : Int32} (hlk : Cond.methodLink own idx Lib.Math.max.name ∈ AL) (hst : Cond.static Lib.Math.max.name ∈ AL) (hini : Cond.initialized "java/lang/Math" ∈ AL) (hco : Cond.code Lib.Math.max.name Lib.Math.max.code 2 (some .int) ∈ AL) (hd : decode cc pc = .ok (.invokestatic idx, 3)) (hq : pc + 3 = q) (hfr : 1 ≤ fr) (hlo : (rest.map fun v => v.category).sum + 13 ≤ lc) (hk : k ≤ ce) (hn : n ≤ sl) (kk : VV g x M k n q L (.int (if a < b then b else a) :: rest)) : VV g x M k n pc L (.int b :: .int a :: rest) := by
  obtain ⟨p, e, R, s, m, args, below, meth, c, nL, Q⟩ := x
  subst hq
  obtain ⟨⟨hx, hb, hml, hown, hts⟩, hK, hR, hz⟩ := C
  subst hR
  intro H locs ls hw hS hl
  exact va_mmax hx hb (by rw [hml]; exact hl.1.1.symm) hown (hts _ hlk) (hts _ hst) (hts _ hini) (hts _ hco) hfr hlo hk hn hd (kk H locs ls hw hS hl)
theorem v_min (C : CX g x cc own fr ce sl lc) (q : Nat) {idx : Nat} {a b : Int32} (hlk : Cond.methodLink own idx Lib.Math.min.name ∈ AL) (hst : Cond.static Lib.Math.min.name ∈ AL) (hini : Cond.initialized "java/lang/Math" ∈ AL) (hco : Cond.code Lib.Math.min.name Lib.Math.min.code 2 (some .int) ∈ AL) (hd : decode cc pc = .ok (.invokestatic idx, 3)) (hq : pc + 3 = q) (hfr : 1 ≤ fr) (hlo : (rest.map fun v => v.category).sum + 13 ≤ lc) (hk : k ≤ ce) (hn : n ≤ sl) (kk : VV g x M k n q L (.int (if b < a then b else a) :: rest)) : VV g x M k n pc L (.int b :: .int a :: rest) := by
  obtain ⟨p, e, R, s, m, args, below, meth, c, nL, Q⟩ := x
  subst hq
  obtain ⟨⟨hx, hb, hml, hown, hts⟩, hK, hR, hz⟩ := C
  subst hR
  intro H locs ls hw hS hl
  exact va_mmin hx hb (by rw [hml]; exact hl.1.1.symm) hown (hts _ hlk) (hts _ hst) (hts _ hini) (hts _ hco) hfr hlo hk hn hd (kk H locs ls hw hS hl)
theorem v_cast (C : CX g x cc own fr ce sl lc) (q : Nat) {Cn nm : String} {T : u_T} {N ci idx a : Nat} {fs : List Value} (hcl : vwCl[ci]? = some (Cn, T, N)) (hlk : Cond.classLink own idx nm ∈ AL) (hca : ∀ s, mp_K g s → va_Nw (.castable Cn nm) s) (hd : decode cc pc = .ok (.checkcast idx, 3)) (hq : pc + 3 = q) (hM : M a = some (.inr (ci, fs))) (kk : VV g x M k n q L (.ref a :: rest)) : VV g x M k n pc L (.ref a :: rest) := by
  obtain ⟨p, e, R, s, m, args, below, meth, c, nL, Q⟩ := x
  subst hq
  obtain ⟨⟨hx, hb, hml, hown, hts⟩, hK, -, -⟩ := C
  intro H locs ls hw hS hl
  obtain ⟨-, ws, hP, hD, hm⟩ := id hw
  obtain ⟨q0, hq0⟩ := hm _ _ hM
  exact va_castY hx hb hown (hts _ hlk) (hca s hK) (va_recv hK.1 hP hcl hq0) hd (kk H locs ls hw hS hl)
end VHEAP
def pv (F : mp_M → Prop) : Option Value → mp_M → Prop := fun v M' => v = none ∧ F M'
def pi_ (F : Int32 → mp_M → Prop) : Option Value → mp_M → Prop := fun v M' => ∃ r : Int32, v = some (.int r) ∧ F r M'
def pq (F : Option Nat → mp_M → Prop) : Option Value → mp_M → Prop := fun v M' => ∃ r : Option Nat, v = some (va_rf r) ∧ F r M'
abbrev rm_ (lv mc ms : Nat) : Room := { frames := lv, cells := mc, slots := ms, locals := 40 * lv }
def Ct (g : gx_T) (y : MethodName) (cc : ByteArray) (nL : Nat) (ret : Option FieldType) (lv : Nat) (As : List Value) (M : mp_M) (Po : Option Value → mp_M → Prop) (mc ms : Nat) : Prop :=
  Met (gx_l g) y (.code y cc nL ret :: AL) (rm_ lv mc ms) (va_Pc As (fun U => mp_H g M U.heap ∧ mp_K g U)) (mp_Q g Po) mc ms (fun q => gx_z g ≤ q)
theorem ct_intro {g : gx_T} {y : MethodName} {cc : ByteArray} {nL : Nat} {ret : Option FieldType} {lv : Nat} {As : List Value} {M : mp_M} {Po : Option Value → mp_M → Prop} {mc ms : Nat} {L0 : List (Option Value)} (hy : plainName y.cls = true) (hn : As.length ≤ nL) (hA : (As.all fun v => v.category == 1) = true) (hL : As.map some ++ List.replicate (nL - As.length) none = L0)
    (body : ∀ x : cx_T, CX g x cc y.cls lv mc ms (40 * lv) → RX g x ret Po mc ms → (y.name = "<init>" → IX x) → VV g x M 0 0 0 L0 []) : Ct g y cc nL ret lv As M Po mc ms := by
  subst hL
  refine Met.ofW (cc := cc) (maxL := nL) (ret := ret) hy rfl ?_
  intro p e s m args below meth c s₁ B hml hv
  obtain ⟨rfl, hH, hK⟩ := hv
  have hts := atoms_spec (ws := .code y cc nL ret :: AL) B.pre
  have hown : s.vm.findClass y.cls = some m.cls := findClass_of_methodNamed B.named
  have hA2 : ∀ v, v ∈ As → v.category = 1 := fun v hv => by simpa using List.all_eq_true.mp hA v hv
  rw [lg_entry_eq]
  exact body (p, e, rm_ lv mc ms, s, m, As.toArray, below, meth, c, nL, MQ below (mp_Q g Po) As.toArray s mc ms (fun q => gx_z g ≤ q)) ⟨⟨B.exec, B.bytes, hml, hown, fun w hw => hts w (List.mem_cons_of_mem _ hw)⟩, hK, rfl, hH.1⟩ ⟨B.returns, B.notSynchronized, rfl⟩ (fun hi => (name_of_methodNamed B.named B.method).1.trans hi) s.heap [] _ hH va_S.rf (lx_entry As hn hA2)
section VRET
variable {g : gx_T} {x : cx_T} {cc : ByteArray} {own : String} {fr ce sl lc : Nat} {M : mp_M} {k n pc : Nat} {L : List (Option Value)} {Po : Option Value → mp_M → Prop} {mc ms : Nat}
theorem v_iret (C : CX g x cc own fr ce sl lc) (E : RX g x (some .int) Po mc ms) {v : Int32} (hd : decode cc pc = .ok (.ireturn, 1)) (hk : k ≤ mc) (hn : n ≤ ms) (hp : Po (some (.int v)) M) : VV g x M k n pc L [.int v] := by
  obtain ⟨p, e, R, s, m, args, below, meth, c, nL, Q⟩ := x
  obtain ⟨hr, hlk, hQ⟩ := E
  subst hQ
  exact fun H locs ls hw hS hl => W.widen hk hn (W.iret C.1.1 C.1.2.1 hr (fun t ht hW => ⟨⟨_, M, rfl, hp, by rw [ht]; exact hw⟩, hS.F ht⟩) hS.2.2 hd hlk)
theorem v_zret (C : CX g x cc own fr ce sl lc) (E : RX g x (some .boolean) Po mc ms) {v : Int32} (hd : decode cc pc = .ok (.ireturn, 1)) (hk : k ≤ mc) (hn : n ≤ ms) (hz : v = 0 ∨ v = 1) (hp : Po (some (.int v)) M) : VV g x M k n pc L [.int v] := by
  obtain ⟨p, e, R, s, m, args, below, meth, c, nL, Q⟩ := x
  obtain ⟨hr, hlk, hQ⟩ := E
  subst hQ
  exact fun H locs ls hw hS hl => W.widen hk hn (W.zret C.1.1 C.1.2.1 hr (by rcases hz with rfl | rfl <;> decide) (fun t ht hW => ⟨⟨_, M, rfl, hp, by rw [ht]; exact hw⟩, hS.F ht⟩) hS.2.2 hd hlk)
theorem v_vret (C : CX g x cc own fr ce sl lc) (E : RX g x none Po mc ms) (hd : decode cc pc = .ok (.return_, 1)) (hk : k ≤ mc) (hn : n ≤ ms) (hp : Po none M) : VV g x M k n pc L [] := by
  obtain ⟨p, e, R, s, m, args, below, meth, c, nL, Q⟩ := x
  obtain ⟨hr, hlk, hQ⟩ := E
  subst hQ
  exact fun H locs ls hw hS hl => W.widen hk hn (W.vret C.1.1 C.1.2.1 hr (fun t ht hW => ⟨⟨_, M, rfl, hp, by rw [ht]; exact hw⟩, hS.F ht⟩) hS.2.2 hd hlk)
theorem v_aret {rt : FieldType} (C : CX g x cc own fr ce sl lc) (E : RX g x (some rt) Po mc ms) {r : Option Nat} (hrt : (∃ n, rt = .object n) ∨ ∃ t, rt = .array t) (hd : decode cc pc = .ok (.areturn, 1)) (hk : k ≤ mc) (hn : n ≤ ms) (hp : Po (some (va_rf r)) M) : VV g x M k n pc L [va_rf r] := by
  obtain ⟨p, e, R, s, m, args, below, meth, c, nL, Q⟩ := x
  obtain ⟨hr, hlk, hQ⟩ := E
  subst hQ
  exact fun H locs ls hw hS hl => W.widen hk hn (W.aret C.1.1 C.1.2.1 hr hrt (va_rf_or r) (fun t ht hW => ⟨⟨_, M, rfl, hp, by rw [ht]; exact hw⟩, hS.F ht⟩) hS.2.2 hd hlk)
end VRET
def RN (g : gx_T) (x : cx_T) (M : mp_M) (k n pc : Nat) (L : List (Option Value)) (st0 rest : List Value) (Po : Option Value → mp_M → Prop) (mc ms : Nat) : Prop := match x with
  | (p, e, R, s, m, args, below, meth, c, nL, Q) => ∀ (H : Heap) (locs : List Loc) (ls : Array Slot), mp_H g M H → va_S (fun q => gx_z g ≤ q) s.heap H locs → lx ls nL L → ∃ a : Array Value, va_Run p (gx_l g) e R s m args below meth c H locs k n mc ms (F0 m pc ls st0) rest (mp_Q g Po a) (fun q => gx_z g ≤ q)
section VCALL
variable {g : gx_T} {x : cx_T} {cc : ByteArray} {own : String} {fr ce sl lc : Nat} {M : mp_M} {k n pc : Nat} {L : List (Option Value)} {st0 rest : List Value} {mc ms : Nat}
theorem v_run {Po : Option Value → mp_M → Prop} (q : Nat) (hr : RN g x M k n pc L st0 rest Po mc ms) (hq : pc + 3 = q) (kk : ∀ (v : Option Value) (M' : mp_M), Po v M' → VV g x M' (k + mc) (n + ms) q L (v.toList ++ rest)) : VV g x M k n pc L st0 := by
  obtain ⟨p, e, R, s, m, args, below, meth, c, nL, Q⟩ := x
  subst hq
  intro H locs ls hw hS hl T hT X
  obtain ⟨a, hra⟩ := hr H locs ls hw hS hl
  obtain ⟨v, st₀, t, T', L9, h0, X', hL, e1, e2, ⟨⟨v', M', hv, hp, hm⟩, hz, hk⟩, st⟩ := hra T hT X
  cases hv
  rw [h0] at hz hk
  obtain ⟨t2, a1, b1⟩ := kk v M' hp T'.heap (locs ++ L9) ls (by rw [e1]; exact hm)
    ⟨Nat.le_trans hS.1 (by rw [e1]; exact hz), fun q h1 h2 => by rw [e1, hk q (Nat.lt_of_lt_of_le h1 hS.1) h2]; exact hS.2.1 q h1 h2, fun q hq => by
      rcases List.mem_append.mp hq with h | h
      · exact hS.2.2 q h
      · exact hL q h⟩ hl T' rfl X'
  exact ⟨t2, st t2 a1, b1⟩
theorem v_rv {F : mp_M → Prop} (q : Nat) (hr : RN g x M k n pc L st0 rest (pv F) mc ms) (hq : pc + 3 = q) (kk : ∀ M' : mp_M, F M' → VV g x M' (k + mc) (n + ms) q L rest) : VV g x M k n pc L st0 :=
  v_run q hr hq (fun v M' h => by obtain ⟨rfl, h2⟩ := h; exact kk M' h2)
theorem v_ri {F : Int32 → mp_M → Prop} (q : Nat) (hr : RN g x M k n pc L st0 rest (pi_ F) mc ms) (hq : pc + 3 = q) (kk : ∀ (r : Int32) (M' : mp_M), F r M' → VV g x M' (k + mc) (n + ms) q L (.int r :: rest)) : VV g x M k n pc L st0 :=
  v_run q hr hq (fun v M' h => by obtain ⟨r, rfl, h2⟩ := h; exact kk r M' h2)
theorem v_rq {F : Option Nat → mp_M → Prop} (q : Nat) (hr : RN g x M k n pc L st0 rest (pq F) mc ms) (hq : pc + 3 = q) (kk : ∀ (r : Option Nat) (M' : mp_M), F r M' → VV g x M' (k + mc) (n + ms) q L (va_rf r :: rest)) : VV g x M k n pc L st0 :=
  v_run q hr hq (fun v M' h => by obtain ⟨r, rfl, h2⟩ := h; exact kk r M' h2)
variable {y : MethodName} {bytes : ByteArray} {maxL : Nat} {ret : Option FieldType} {lv idx : Nat} {As : List Value} {Po : Option Value → mp_M → Prop}
theorem AL_good : ∀ w ∈ AL, ((w.onTables && w.keeps) = true ∨ ∃ ty, w = .arrayClass ty) := AL_good0
theorem ct_GoodIn (hc : Cond.code y bytes maxL ret ∈ AL) : GoodIn AL (.code y bytes maxL ret :: AL) := by
  intro w hw
  rcases List.mem_cons.mp hw with h | h
  · subst h
    exact ⟨hc, AL_good _ hc⟩
  · exact ⟨h, AL_good _ h⟩
theorem ct_blind : FrameBlind (va_Pc As (fun U => mp_H g M U.heap ∧ mp_K g U)) := fun a U f mk h => ⟨h.1, h.2.1, h.2.2.calling⟩
theorem rn_V (C : CX g x cc own fr ce sl lc) {b ci : Nat} (hM : Ct g y bytes maxL ret lv (.ref b :: As) M Po mc ms) {T : u_T} {N nA : Nat} {fs : List Value} (hb : M b = some (.inr (ci, fs))) (hcl : vwCl[ci]? = some (y.cls, T, N)) (hlk : Cond.methodLink own idx y ∈ AL) (hin : Cond.instanceMethod y ∈ AL) (hse : Cond.selects y.cls y y ∈ AL) (hini : Cond.initialized y.cls ∈ AL) (hco : Cond.code y bytes maxL ret ∈ AL)
    (hd : y.cls ≠ "java/lang/invoke/MethodHandle" ∧ y.cls ≠ "java/lang/invoke/VarHandle" ∧ (parseMethodDescriptor y.desc).map (fun d => d.parameters.length) = some nA) (hnA : As.length = nA) (hst : st0 = As.reverse ++ .ref b :: rest) (hdg : decode cc pc = .ok (.invokevirtual idx, 3)) (hfr : lv + 1 ≤ fr) (hlc : 8 + (maxL + 11) + 40 * lv ≤ lc) (hW : (rest.map fun v => v.category).sum ≤ 8) (hk : k + mc ≤ ce) (hn : n + ms ≤ sl) : RN g x M k n pc L st0 rest Po mc ms := by
  obtain ⟨p, e, R, s, m, args, below, meth, c, nL, Q⟩ := x
  obtain ⟨⟨hx, hbc, hml, hown, hts⟩, hK, hR, hz⟩ := C
  subst hR
  subst hst
  intro H locs ls hw hS hl
  obtain ⟨-, ws, hP, hD, hm⟩ := id hw
  obtain ⟨q0, hq0⟩ := hm _ _ hb
  refine ⟨_, va_runV (nL := nL) (n := nA) (C := y.cls) (As := As) ⟨hx, hbc, hml, hown, hts⟩ hM ⟨callB_of nA hts (ct_GoodIn hco) rfl rfl rfl (hts _ hini) (hts _ hlk) hd ⟨hfr, hlc⟩, hts _ hin, hts _ hse⟩ ⟨ct_blind, va_recv hK.1 hP hcl hq0, fun U hU hWm => ⟨rfl, by rw [hU]; exact hw, hK.to hz hWm hU hS⟩⟩ rfl hnA hl.1.1 rfl (lv_room hW) hdg ⟨hk, hn⟩⟩
theorem rn_I (C : CX g x cc own fr ce sl lc) {b nA : Nat} (hM : Ct g y bytes maxL none lv (.ref b :: As) M Po mc ms) (hy1 : y.name = "<init>") (hlk : Cond.methodLink own idx y ∈ AL) (hin : Cond.instanceMethod y ∈ AL) (hini : Cond.initialized y.cls ∈ AL) (hco : Cond.code y bytes maxL none ∈ AL)
    (hd : y.cls ≠ "java/lang/invoke/MethodHandle" ∧ y.cls ≠ "java/lang/invoke/VarHandle" ∧ (parseMethodDescriptor y.desc).map (fun d => d.parameters.length) = some nA) (hnA : As.length = nA) (hst : st0 = As.reverse ++ .ref b :: rest) (hdg : decode cc pc = .ok (.invokespecial idx, 3)) (hfr : lv + 1 ≤ fr) (hlc : 8 + (maxL + 11) + 40 * lv ≤ lc) (hW : (rest.map fun v => v.category).sum ≤ 8) (hk : k + mc ≤ ce) (hn : n + ms ≤ sl) : RN g x M k n pc L st0 rest Po mc ms := by
  obtain ⟨p, e, R, s, m, args, below, meth, c, nL, Q⟩ := x
  obtain ⟨⟨hx, hbc, hml, hown, hts⟩, hK, hR, hz⟩ := C
  subst hR
  subst hst
  intro H locs ls hw hS hl
  refine ⟨_, va_runI (nL := nL) (n := nA) (b := b) (As := As) ⟨hx, hbc, hml, hown, hts⟩ hM (cwI nA hts (ct_GoodIn hco) rfl rfl rfl (hts _ hini) (hts _ hlk) (hts _ hin) hy1 hd ⟨hfr, hlc⟩) ⟨ct_blind, fun U hU hWm => ⟨rfl, by rw [hU]; exact hw, hK.to hz hWm hU hS⟩⟩ rfl hnA hl.1.1 rfl (lv_room hW) hdg ⟨hk, hn⟩⟩
theorem rn_S (C : CX g x cc own fr ce sl lc) {nA : Nat} (hM : Ct g y bytes maxL ret lv As M Po mc ms) (hlk : Cond.methodLink own idx y ∈ AL) (hst2 : Cond.static y ∈ AL) (hini : Cond.initialized y.cls ∈ AL) (hco : Cond.code y bytes maxL ret ∈ AL)
    (hd : y.cls ≠ "java/lang/invoke/MethodHandle" ∧ y.cls ≠ "java/lang/invoke/VarHandle" ∧ (parseMethodDescriptor y.desc).map (fun d => d.parameters.length) = some nA) (hnA : As.length = nA) (hst : st0 = As.reverse ++ rest) (hdg : decode cc pc = .ok (.invokestatic idx, 3)) (hfr : lv + 1 ≤ fr) (hlc : 8 + (maxL + 11) + 40 * lv ≤ lc) (hW : (rest.map fun v => v.category).sum ≤ 8) (hk : k + mc ≤ ce) (hn : n + ms ≤ sl) : RN g x M k n pc L st0 rest Po mc ms := by
  obtain ⟨p, e, R, s, m, args, below, meth, c, nL, Q⟩ := x
  obtain ⟨⟨hx, hbc, hml, hown, hts⟩, hK, hR, hz⟩ := C
  subst hR
  subst hst
  intro H locs ls hw hS hl
  refine ⟨_, va_runS (nL := nL) (n := nA) (As := As) ⟨hx, hbc, hml, hown, hts⟩ hM ⟨callB_of nA hts (ct_GoodIn hco) rfl rfl rfl (hts _ hini) (hts _ hlk) hd ⟨hfr, hlc⟩, hts _ hst2⟩ ⟨ct_blind, fun U hU hWm => ⟨rfl, by rw [hU]; exact hw, hK.to hz hWm hU hS⟩⟩ rfl hnA hl.1.1 rfl (lv_room hW) hdg ⟨hk, hn⟩⟩
theorem rn_SN (C : CX g x cc own fr ce sl lc) {nA : Nat} {host : String} (hM : Ct g y bytes maxL ret lv As M Po mc ms) (hlk : ∀ s, mp_K g s → va_Nw (.methodLinkNest own idx y host) s) (hst2 : Cond.static y ∈ AL) (hini : Cond.initialized y.cls ∈ AL) (hco : Cond.code y bytes maxL ret ∈ AL)
    (hd : y.cls ≠ "java/lang/invoke/MethodHandle" ∧ y.cls ≠ "java/lang/invoke/VarHandle" ∧ (parseMethodDescriptor y.desc).map (fun d => d.parameters.length) = some nA) (hnA : As.length = nA) (hst : st0 = As.reverse ++ rest) (hdg : decode cc pc = .ok (.invokestatic idx, 3)) (hfr : lv + 1 ≤ fr) (hlc : 8 + (maxL + 11) + 40 * lv ≤ lc) (hW : (rest.map fun v => v.category).sum ≤ 8) (hk : k + mc ≤ ce) (hn : n + ms ≤ sl) : RN g x M k n pc L st0 rest Po mc ms := by
  obtain ⟨p, e, R, s, m, args, below, meth, c, nL, Q⟩ := x
  obtain ⟨⟨hx, hbc, hml, hown, hts⟩, hK, hR, hz⟩ := C
  subst hR
  subst hst
  intro H locs ls hw hS hl
  refine ⟨_, va_runSN (nL := nL) (n := nA) (As := As) ⟨hx, hbc, hml, hown, hts⟩ hM ⟨va_cnB nA hts (ct_GoodIn hco) rfl rfl rfl (hlk s hK) (hts _ hini) hd ⟨hfr, hlc⟩, hts _ hst2, trivial⟩ ⟨ct_blind, fun U hU hWm => ⟨rfl, by rw [hU]; exact hw, hK.to hz hWm hU hS⟩⟩ rfl hnA hl.1.1 rfl (lv_room hW) hdg ⟨hk, hn⟩⟩
end VCALL
end
section
set_option maxRecDepth 20000 in
theorem hinE : ∀ w ∈ u_ws RXE TXE 5, w ∈ AL := by decide +kernel
set_option maxRecDepth 20000 in
theorem hinT : ∀ w ∈ u_ws RXT TXT 4, w ∈ AL := by decide +kernel
set_option maxRecDepth 20000 in
theorem hinS : ∀ w ∈ u_ws RXS TXS 8, w ∈ AL := by decide +kernel
set_option maxRecDepth 20000 in
theorem hinM : ∀ w ∈ u_ws RXM TXM 16, w ∈ AL := by decide +kernel
set_option maxRecDepth 20000 in
theorem hinA : ∀ w ∈ u_ws RXA TXA 3, w ∈ AL := by decide +kernel
section POOL
variable {g : gx_T} {x : cx_T} {cc : ByteArray} {fr ce sl lc : Nat} {M : mp_M} {k n pc : Nat} {L : List (Option Value)} {rest : List Value}
theorem nw_XL_7 (C : CX g x cc RXL fr ce sl lc) (q : Nat) (hd : decode cc pc = .ok (.new 7, 3)) (hq : pc + 3 = q) (hcells : k + 1 ≤ ce) (hslots : n + 8 ≤ sl) (kk : ∀ a : Nat, M a = none → VV g x (mp_u M a (.inr (ci_S, [.int 0, .int 0, .null, .null, .null, .int 0, .int 0, .int 0]))) (k + 1) (n + 8) q L (.ref a :: rest)) : VV g x M k n pc L rest := v_new C q hinS tyXS tyXS_ok rfl al_33 al_34 al_20 (by intro j hj; rcases (show j = 0 ∨ j = 1 ∨ j = 2 ∨ j = 3 ∨ j = 4 ∨ j = 5 ∨ j = 6 ∨ j = 7 by omega) with rfl | rfl | rfl | rfl | rfl | rfl | rfl | rfl <;> rfl) hd hq hcells hslots kk
theorem cl_XL_15 {st0 As : List Value} {Po : Option Value → mp_M → Prop} {lv mc ms : Nat} (C : CX g x cc RXL fr ce sl lc) {b : Nat} (hM : Ct g yXS_init cXS_init 3 none lv (.ref b :: As) M Po mc ms) (hdg : decode cc pc = .ok (.invokespecial 15, 3)) (hst : st0 = As.reverse ++ .ref b :: rest) (hnA : As.length = 2) (hfr : lv + 1 ≤ fr) (hlc : 8 + (3 + 11) + 40 * lv ≤ lc) (hW : (rest.map fun v => v.category).sum ≤ 8) (hk : k + mc ≤ ce) (hn : n + ms ≤ sl) : RN g x M k n pc L st0 rest Po mc ms := rn_I C hM rfl al_35 al_36 al_20 al_37 ⟨by decide, by decide, by decide +kernel⟩ hnA hst hdg hfr hlc hW hk hn
theorem oi_XS_3 (C : CX g x cc RXS fr ce sl lc) (q : Nat) {a : Nat} (hd : decode cc pc = .ok (.invokespecial 3, 3)) (hq : pc + 3 = q) (hfr : 1 ≤ fr) (hlo : (rest.map fun v => v.category).sum + 12 ≤ lc) (kk : VV g x M k n q L rest) : VV g x M k n pc L (.ref a :: rest) := v_objInit C q al_38 al_39 al_40 hd hq hfr hlo kk
theorem min_XS_9 (C : CX g x cc RXS fr ce sl lc) (q : Nat) {a b : Int32} (hd : decode cc pc = .ok (.invokestatic 9, 3)) (hq : pc + 3 = q) (hfr : 1 ≤ fr) (hlo : (rest.map fun v => v.category).sum + 13 ≤ lc) (hk : k ≤ ce) (hn : n ≤ sl) (kk : VV g x M k n q L (.int (if b < a then b else a) :: rest)) : VV g x M k n pc L (.int b :: .int a :: rest) := v_min C q al_41 al_42 al_21 al_43 hd hq hfr hlo hk hn kk
theorem max_XS_15 (C : CX g x cc RXS fr ce sl lc) (q : Nat) {a b : Int32} (hd : decode cc pc = .ok (.invokestatic 15, 3)) (hq : pc + 3 = q) (hfr : 1 ≤ fr) (hlo : (rest.map fun v => v.category).sum + 13 ≤ lc) (hk : k ≤ ce) (hn : n ≤ sl) (kk : VV g x M k n q L (.int (if a < b then b else a) :: rest)) : VV g x M k n pc L (.int b :: .int a :: rest) := v_max C q al_44 al_45 al_21 al_46 hd hq hfr hlo hk hn kk
theorem nw_XS_25 (C : CX g x cc RXS fr ce sl lc) (q : Nat) (hd : decode cc pc = .ok (.new 25, 3)) (hq : pc + 3 = q) (hcells : k + 1 ≤ ce) (hslots : n + 5 ≤ sl) (kk : ∀ a : Nat, M a = none → VV g x (mp_u M a (.inr (ci_E, [.int 0, .int 0, .int 0, .int 0, .int 0]))) (k + 1) (n + 5) q L (.ref a :: rest)) : VV g x M k n pc L rest := v_new C q hinE tyXE tyXE_ok rfl al_47 al_114 al_27 (by intro j hj; rcases (show j = 0 ∨ j = 1 ∨ j = 2 ∨ j = 3 ∨ j = 4 by omega) with rfl | rfl | rfl | rfl | rfl <;> rfl) hd hq hcells hslots kk
theorem na_XS_25 (C : CX g x cc RXS fr ce sl lc) (q : Nat) {i : Int32} (hd : decode cc pc = .ok (.anewarray 25, 3)) (hq : pc + 3 = q) (N : Nat) (hi : i = nI N) (hN : N < 100000) (hcells : k + 1 ≤ ce) (hslots : n + N ≤ sl) (kk : ∀ a : Nat, M a = none → VV g x (mp_u M a (.inl (gx_E g, N, .inr (.inr (.inr (.inr (fun _ => none))))))) (k + 1) (n + N) q L (.ref a :: rest)) : VV g x M k n pc L (.int i :: rest) := v_newq C q 0 rfl (fun s h => h.2.1) al_47 hd hq N hi hN hcells hslots kk
theorem nw_XS_31 (C : CX g x cc RXS fr ce sl lc) (q : Nat) (hd : decode cc pc = .ok (.new 31, 3)) (hq : pc + 3 = q) (hcells : k + 1 ≤ ce) (hslots : n + 3 ≤ sl) (kk : ∀ a : Nat, M a = none → VV g x (mp_u M a (.inr (ci_A, [.int 0, .null, .int 0]))) (k + 1) (n + 3) q L (.ref a :: rest)) : VV g x M k n pc L rest := v_new C q hinA tyXA tyXA_ok rfl al_48 al_49 al_24 (by intro j hj; rcases (show j = 0 ∨ j = 1 ∨ j = 2 by omega) with rfl | rfl | rfl <;> rfl) hd hq hcells hslots kk
theorem cl_XS_33 {st0 As : List Value} {Po : Option Value → mp_M → Prop} {lv mc ms : Nat} (C : CX g x cc RXS fr ce sl lc) {b : Nat} (hM : Ct g yXA_init cXA_init 1 none lv (.ref b :: As) M Po mc ms) (hdg : decode cc pc = .ok (.invokespecial 33, 3)) (hst : st0 = As.reverse ++ .ref b :: rest) (hnA : As.length = 0) (hfr : lv + 1 ≤ fr) (hlc : 8 + (1 + 11) + 40 * lv ≤ lc) (hW : (rest.map fun v => v.category).sum ≤ 8) (hk : k + mc ≤ ce) (hn : n + ms ≤ sl) : RN g x M k n pc L st0 rest Po mc ms := rn_I C hM rfl al_50 al_51 al_24 al_52 ⟨by decide, by decide, by decide +kernel⟩ hnA hst hdg hfr hlc hW hk hn
theorem cl_XA_1 {st0 As : List Value} {Po : Option Value → mp_M → Prop} {lv mc ms : Nat} (C : CX g x cc RXA fr ce sl lc) {b : Nat} (hM : Ct g yXB_init cXB_init 1 none lv (.ref b :: As) M Po mc ms) (hdg : decode cc pc = .ok (.invokespecial 1, 3)) (hst : st0 = As.reverse ++ .ref b :: rest) (hnA : As.length = 0) (hfr : lv + 1 ≤ fr) (hlc : 8 + (1 + 11) + 40 * lv ≤ lc) (hW : (rest.map fun v => v.category).sum ≤ 8) (hk : k + mc ≤ ce) (hn : n + ms ≤ sl) : RN g x M k n pc L st0 rest Po mc ms := rn_I C hM rfl al_53 al_54 al_23 al_55 ⟨by decide, by decide, by decide +kernel⟩ hnA hst hdg hfr hlc hW hk hn
theorem cl_XB_1 {st0 As : List Value} {Po : Option Value → mp_M → Prop} {lv mc ms : Nat} (C : CX g x cc RXB fr ce sl lc) {b : Nat} (hM : Ct g yXC_init cXC_init 1 none lv (.ref b :: As) M Po mc ms) (hdg : decode cc pc = .ok (.invokespecial 1, 3)) (hst : st0 = As.reverse ++ .ref b :: rest) (hnA : As.length = 0) (hfr : lv + 1 ≤ fr) (hlc : 8 + (1 + 11) + 40 * lv ≤ lc) (hW : (rest.map fun v => v.category).sum ≤ 8) (hk : k + mc ≤ ce) (hn : n + ms ≤ sl) : RN g x M k n pc L st0 rest Po mc ms := rn_I C hM rfl al_56 al_57 al_22 al_58 ⟨by decide, by decide, by decide +kernel⟩ hnA hst hdg hfr hlc hW hk hn
theorem oi_XC_1 (C : CX g x cc RXC fr ce sl lc) (q : Nat) {a : Nat} (hd : decode cc pc = .ok (.invokespecial 1, 3)) (hq : pc + 3 = q) (hfr : 1 ≤ fr) (hlo : (rest.map fun v => v.category).sum + 12 ≤ lc) (kk : VV g x M k n q L rest) : VV g x M k n pc L (.ref a :: rest) := v_objInit C q al_59 al_39 al_40 hd hq hfr hlo kk
theorem gt_XA_9 (C : CX g x cc RXA fr ce sl lc) (q : Nat) {a : Nat} {fs : List Value} {v : Value} (hd : decode cc pc = .ok (.getfield 9, 3)) (hq : pc + 3 = q) (hM : M a = some (.inr (ci_A, fs))) (hv : fs[1]? = some v) (kk : VV g x M k n q L (v :: rest)) : VV g x M k n pc L (.ref a :: rest) := v_get C q hinA rfl 1 (by decide) al_61 (Or.inl rfl) hd hq hM hv kk
theorem pt_XA_9 (C : CX g x cc RXA fr ce sl lc) (q : Nat) {a : Nat} {fs : List Value} {v : Value} (hd : decode cc pc = .ok (.putfield 9, 3)) (hq : pc + 3 = q) (hn : narrow (.array (.object "java/lang/Object")) v = v) (hfit : fits (.array (.object "java/lang/Object")) v = true) (hM : M a = some (.inr (ci_A, fs))) (hl2 : 1 < fs.length) (fs2 : List Value) (hfs : fs.set 1 v = fs2) (kk : VV g x (mp_u M a (.inr (ci_A, fs2))) k n q L rest) : VV g x M k n pc L (v :: .ref a :: rest) := v_put C q hinA tyXA tyXA_ok nmXA rfl 1 (by decide) al_61 (Or.inl rfl) rfl (by decide +kernel) hd hq hn hfit hM hl2 fs2 hfs kk
theorem gt_XA_48 (C : CX g x cc RXA fr ce sl lc) (q : Nat) {a : Nat} {fs : List Value} {v : Value} (hd : decode cc pc = .ok (.getfield 48, 3)) (hq : pc + 3 = q) (hM : M a = some (.inr (ci_A, fs))) (hv : fs[2]? = some v) (kk : VV g x M k n q L (v :: rest)) : VV g x M k n pc L (.ref a :: rest) := v_get C q hinA rfl 2 (by decide) al_62 (Or.inl rfl) hd hq hM hv kk
theorem pt_XA_48 (C : CX g x cc RXA fr ce sl lc) (q : Nat) {a : Nat} {fs : List Value} {v : Value} (hd : decode cc pc = .ok (.putfield 48, 3)) (hq : pc + 3 = q) (hn : narrow .int v = v) (hfit : fits .int v = true) (hM : M a = some (.inr (ci_A, fs))) (hl2 : 2 < fs.length) (fs2 : List Value) (hfs : fs.set 2 v = fs2) (kk : VV g x (mp_u M a (.inr (ci_A, fs2))) k n q L rest) : VV g x M k n pc L (v :: .ref a :: rest) := v_put C q hinA tyXA tyXA_ok nmXA rfl 2 (by decide) al_62 (Or.inl rfl) rfl (by decide +kernel) hd hq hn hfit hM hl2 fs2 hfs kk
theorem gt_XB_7 (C : CX g x cc RXB fr ce sl lc) (q : Nat) {a : Nat} {fs : List Value} {v : Value} (hd : decode cc pc = .ok (.getfield 7, 3)) (hq : pc + 3 = q) (hM : M a = some (.inr (ci_A, fs))) (hv : fs[0]? = some v) (kk : VV g x M k n q L (v :: rest)) : VV g x M k n pc L (.ref a :: rest) := v_get C q hinA rfl 0 (by decide) al_63 (Or.inl rfl) hd hq hM hv kk
theorem pt_XB_7 (C : CX g x cc RXB fr ce sl lc) (q : Nat) {a : Nat} {fs : List Value} {v : Value} (hd : decode cc pc = .ok (.putfield 7, 3)) (hq : pc + 3 = q) (hn : narrow .int v = v) (hfit : fits .int v = true) (hM : M a = some (.inr (ci_A, fs))) (hl2 : 0 < fs.length) (fs2 : List Value) (hfs : fs.set 0 v = fs2) (kk : VV g x (mp_u M a (.inr (ci_A, fs2))) k n q L rest) : VV g x M k n pc L (v :: .ref a :: rest) := v_put C q hinA tyXA tyXA_ok nmXA rfl 0 (by decide) al_63 (Or.inl rfl) rfl (by decide +kernel) hd hq hn hfit hM hl2 fs2 hfs kk
theorem gt_XA_63 (C : CX g x cc RXA fr ce sl lc) (q : Nat) {a : Nat} {fs : List Value} {v : Value} (hd : decode cc pc = .ok (.getfield 63, 3)) (hq : pc + 3 = q) (hM : M a = some (.inr (ci_A, fs))) (hv : fs[0]? = some v) (kk : VV g x M k n q L (v :: rest)) : VV g x M k n pc L (.ref a :: rest) := v_get C q hinA rfl 0 (by decide) al_64 (Or.inr al_65) hd hq hM hv kk
theorem pt_XA_63 (C : CX g x cc RXA fr ce sl lc) (q : Nat) {a : Nat} {fs : List Value} {v : Value} (hd : decode cc pc = .ok (.putfield 63, 3)) (hq : pc + 3 = q) (hn : narrow .int v = v) (hfit : fits .int v = true) (hM : M a = some (.inr (ci_A, fs))) (hl2 : 0 < fs.length) (fs2 : List Value) (hfs : fs.set 0 v = fs2) (kk : VV g x (mp_u M a (.inr (ci_A, fs2))) k n q L rest) : VV g x M k n pc L (v :: .ref a :: rest) := v_put C q hinA tyXA tyXA_ok nmXA rfl 0 (by decide) al_64 (Or.inr al_65) rfl (by decide +kernel) hd hq hn hfit hM hl2 fs2 hfs kk
theorem nw_XS_38 (C : CX g x cc RXS fr ce sl lc) (q : Nat) (hd : decode cc pc = .ok (.new 38, 3)) (hq : pc + 3 = q) (hcells : k + 1 ≤ ce) (hslots : n + 4 ≤ sl) (kk : ∀ a : Nat, M a = none → VV g x (mp_u M a (.inr (ci_T, [.int 0, .null, .int 0, .int 0]))) (k + 1) (n + 4) q L (.ref a :: rest)) : VV g x M k n pc L rest := v_new C q hinT tyXT tyXT_ok rfl al_69 al_70 al_25 (by intro j hj; rcases (show j = 0 ∨ j = 1 ∨ j = 2 ∨ j = 3 by omega) with rfl | rfl | rfl | rfl <;> rfl) hd hq hcells hslots kk
theorem ca_XS_38 (C : CX g x cc RXS fr ce sl lc) (q : Nat) {a : Nat} {fs : List Value} (hd : decode cc pc = .ok (.checkcast 38, 3)) (hq : pc + 3 = q) (hM : M a = some (.inr (ci_T, fs))) (kk : VV g x M k n q L (.ref a :: rest)) : VV g x M k n pc L (.ref a :: rest) := v_cast C q (ci := ci_T) rfl al_69 (fun s h => h.2.2.2.2.2.1) hd hq hM kk
theorem cl_XS_40 {st0 As : List Value} {Po : Option Value → mp_M → Prop} {lv mc ms : Nat} (C : CX g x cc RXS fr ce sl lc) {b : Nat} (hM : Ct g yXT_init cXT_init 2 none lv (.ref b :: As) M Po mc ms) (hdg : decode cc pc = .ok (.invokespecial 40, 3)) (hst : st0 = As.reverse ++ .ref b :: rest) (hnA : As.length = 1) (hfr : lv + 1 ≤ fr) (hlc : 8 + (2 + 11) + 40 * lv ≤ lc) (hW : (rest.map fun v => v.category).sum ≤ 8) (hk : k + mc ≤ ce) (hn : n + ms ≤ sl) : RN g x M k n pc L st0 rest Po mc ms := rn_I C hM rfl al_71 al_72 al_25 al_73 ⟨by decide, by decide, by decide +kernel⟩ hnA hst hdg hfr hlc hW hk hn
theorem oi_XT_3 (C : CX g x cc RXT fr ce sl lc) (q : Nat) {a : Nat} (hd : decode cc pc = .ok (.invokespecial 3, 3)) (hq : pc + 3 = q) (hfr : 1 ≤ fr) (hlo : (rest.map fun v => v.category).sum + 12 ≤ lc) (kk : VV g x M k n q L rest) : VV g x M k n pc L (.ref a :: rest) := v_objInit C q al_74 al_39 al_40 hd hq hfr hlo kk
theorem nw_XT_15 (C : CX g x cc RXT fr ce sl lc) (q : Nat) (hd : decode cc pc = .ok (.new 15, 3)) (hq : pc + 3 = q) (hcells : k + 1 ≤ ce) (hslots : n + 5 ≤ sl) (kk : ∀ a : Nat, M a = none → VV g x (mp_u M a (.inr (ci_E, [.int 0, .int 0, .int 0, .int 0, .int 0]))) (k + 1) (n + 5) q L (.ref a :: rest)) : VV g x M k n pc L rest := v_new C q hinE tyXE tyXE_ok rfl al_75 al_114 al_27 (by intro j hj; rcases (show j = 0 ∨ j = 1 ∨ j = 2 ∨ j = 3 ∨ j = 4 by omega) with rfl | rfl | rfl | rfl | rfl <;> rfl) hd hq hcells hslots kk
theorem na_XT_15 (C : CX g x cc RXT fr ce sl lc) (q : Nat) {i : Int32} (hd : decode cc pc = .ok (.anewarray 15, 3)) (hq : pc + 3 = q) (N : Nat) (hi : i = nI N) (hN : N < 100000) (hcells : k + 1 ≤ ce) (hslots : n + N ≤ sl) (kk : ∀ a : Nat, M a = none → VV g x (mp_u M a (.inl (gx_E g, N, .inr (.inr (.inr (.inr (fun _ => none))))))) (k + 1) (n + N) q L (.ref a :: rest)) : VV g x M k n pc L (.int i :: rest) := v_newq C q 0 rfl (fun s h => h.2.1) al_75 hd hq N hi hN hcells hslots kk
theorem gt_XT_9 (C : CX g x cc RXT fr ce sl lc) (q : Nat) {a : Nat} {fs : List Value} {v : Value} (hd : decode cc pc = .ok (.getfield 9, 3)) (hq : pc + 3 = q) (hM : M a = some (.inr (ci_T, fs))) (hv : fs[0]? = some v) (kk : VV g x M k n q L (v :: rest)) : VV g x M k n pc L (.ref a :: rest) := v_get C q hinT rfl 0 (by decide) al_76 (Or.inl rfl) hd hq hM hv kk
theorem pt_XT_9 (C : CX g x cc RXT fr ce sl lc) (I : IX x) (q : Nat) {a : Nat} {fs : List Value} {v : Value} (hd : decode cc pc = .ok (.putfield 9, 3)) (hq : pc + 3 = q) (hn : narrow .int v = v) (hfit : fits .int v = true) (hM : M a = some (.inr (ci_T, fs))) (hl2 : 0 < fs.length) (fs2 : List Value) (hfs : fs.set 0 v = fs2) (kk : VV g x (mp_u M a (.inr (ci_T, fs2))) k n q L rest) : VV g x M k n pc L (v :: .ref a :: rest) := v_putF C I q hinT tyXT tyXT_ok nmXT rfl 0 (by decide) al_76 (Or.inl rfl) rfl rfl (by decide +kernel) hd hq hn hfit hM hl2 fs2 hfs kk
theorem gt_XS_123 (C : CX g x cc RXS fr ce sl lc) (q : Nat) {a : Nat} {fs : List Value} {v : Value} (hd : decode cc pc = .ok (.getfield 123, 3)) (hq : pc + 3 = q) (hM : M a = some (.inr (ci_T, fs))) (hv : fs[0]? = some v) (kk : VV g x M k n q L (v :: rest)) : VV g x M k n pc L (.ref a :: rest) := v_get C q hinT rfl 0 (by decide) al_77 (Or.inl rfl) hd hq hM hv kk
theorem gt_XT_17 (C : CX g x cc RXT fr ce sl lc) (q : Nat) {a : Nat} {fs : List Value} {v : Value} (hd : decode cc pc = .ok (.getfield 17, 3)) (hq : pc + 3 = q) (hM : M a = some (.inr (ci_T, fs))) (hv : fs[1]? = some v) (kk : VV g x M k n q L (v :: rest)) : VV g x M k n pc L (.ref a :: rest) := v_get C q hinT rfl 1 (by decide) al_78 (Or.inl rfl) hd hq hM hv kk
theorem pt_XT_17 (C : CX g x cc RXT fr ce sl lc) (I : IX x) (q : Nat) {a : Nat} {fs : List Value} {v : Value} (hd : decode cc pc = .ok (.putfield 17, 3)) (hq : pc + 3 = q) (hn : narrow (.array (.object "WideStore$Entry")) v = v) (hfit : fits (.array (.object "WideStore$Entry")) v = true) (hM : M a = some (.inr (ci_T, fs))) (hl2 : 1 < fs.length) (fs2 : List Value) (hfs : fs.set 1 v = fs2) (kk : VV g x (mp_u M a (.inr (ci_T, fs2))) k n q L rest) : VV g x M k n pc L (v :: .ref a :: rest) := v_putF C I q hinT tyXT tyXT_ok nmXT rfl 1 (by decide) al_78 (Or.inl rfl) rfl rfl (by decide +kernel) hd hq hn hfit hM hl2 fs2 hfs kk
theorem gt_XT_21 (C : CX g x cc RXT fr ce sl lc) (q : Nat) {a : Nat} {fs : List Value} {v : Value} (hd : decode cc pc = .ok (.getfield 21, 3)) (hq : pc + 3 = q) (hM : M a = some (.inr (ci_T, fs))) (hv : fs[2]? = some v) (kk : VV g x M k n q L (v :: rest)) : VV g x M k n pc L (.ref a :: rest) := v_get C q hinT rfl 2 (by decide) al_79 (Or.inl rfl) hd hq hM hv kk
theorem pt_XT_21 (C : CX g x cc RXT fr ce sl lc) (q : Nat) {a : Nat} {fs : List Value} {v : Value} (hd : decode cc pc = .ok (.putfield 21, 3)) (hq : pc + 3 = q) (hn : narrow .int v = v) (hfit : fits .int v = true) (hM : M a = some (.inr (ci_T, fs))) (hl2 : 2 < fs.length) (fs2 : List Value) (hfs : fs.set 2 v = fs2) (kk : VV g x (mp_u M a (.inr (ci_T, fs2))) k n q L rest) : VV g x M k n pc L (v :: .ref a :: rest) := v_put C q hinT tyXT tyXT_ok nmXT rfl 2 (by decide) al_79 (Or.inl rfl) rfl (by decide +kernel) hd hq hn hfit hM hl2 fs2 hfs kk
theorem gt_XS_92 (C : CX g x cc RXS fr ce sl lc) (q : Nat) {a : Nat} {fs : List Value} {v : Value} (hd : decode cc pc = .ok (.getfield 92, 3)) (hq : pc + 3 = q) (hM : M a = some (.inr (ci_T, fs))) (hv : fs[2]? = some v) (kk : VV g x M k n q L (v :: rest)) : VV g x M k n pc L (.ref a :: rest) := v_get C q hinT rfl 2 (by decide) al_80 (Or.inl rfl) hd hq hM hv kk
theorem pt_XS_92 (C : CX g x cc RXS fr ce sl lc) (q : Nat) {a : Nat} {fs : List Value} {v : Value} (hd : decode cc pc = .ok (.putfield 92, 3)) (hq : pc + 3 = q) (hn : narrow .int v = v) (hfit : fits .int v = true) (hM : M a = some (.inr (ci_T, fs))) (hl2 : 2 < fs.length) (fs2 : List Value) (hfs : fs.set 2 v = fs2) (kk : VV g x (mp_u M a (.inr (ci_T, fs2))) k n q L rest) : VV g x M k n pc L (v :: .ref a :: rest) := v_put C q hinT tyXT tyXT_ok nmXT rfl 2 (by decide) al_80 (Or.inl rfl) rfl (by decide +kernel) hd hq hn hfit hM hl2 fs2 hfs kk
theorem gt_XT_24 (C : CX g x cc RXT fr ce sl lc) (q : Nat) {a : Nat} {fs : List Value} {v : Value} (hd : decode cc pc = .ok (.getfield 24, 3)) (hq : pc + 3 = q) (hM : M a = some (.inr (ci_T, fs))) (hv : fs[3]? = some v) (kk : VV g x M k n q L (v :: rest)) : VV g x M k n pc L (.ref a :: rest) := v_get C q hinT rfl 3 (by decide) al_81 (Or.inl rfl) hd hq hM hv kk
theorem pt_XT_24 (C : CX g x cc RXT fr ce sl lc) (q : Nat) {a : Nat} {fs : List Value} {v : Value} (hd : decode cc pc = .ok (.putfield 24, 3)) (hq : pc + 3 = q) (hn : narrow .int v = v) (hfit : fits .int v = true) (hM : M a = some (.inr (ci_T, fs))) (hl2 : 3 < fs.length) (fs2 : List Value) (hfs : fs.set 3 v = fs2) (kk : VV g x (mp_u M a (.inr (ci_T, fs2))) k n q L rest) : VV g x M k n pc L (v :: .ref a :: rest) := v_put C q hinT tyXT tyXT_ok nmXT rfl 3 (by decide) al_81 (Or.inl rfl) rfl (by decide +kernel) hd hq hn hfit hM hl2 fs2 hfs kk
theorem gt_XS_126 (C : CX g x cc RXS fr ce sl lc) (q : Nat) {a : Nat} {fs : List Value} {v : Value} (hd : decode cc pc = .ok (.getfield 126, 3)) (hq : pc + 3 = q) (hM : M a = some (.inr (ci_T, fs))) (hv : fs[3]? = some v) (kk : VV g x M k n q L (v :: rest)) : VV g x M k n pc L (.ref a :: rest) := v_get C q hinT rfl 3 (by decide) al_82 (Or.inl rfl) hd hq hM hv kk
theorem pt_XS_126 (C : CX g x cc RXS fr ce sl lc) (q : Nat) {a : Nat} {fs : List Value} {v : Value} (hd : decode cc pc = .ok (.putfield 126, 3)) (hq : pc + 3 = q) (hn : narrow .int v = v) (hfit : fits .int v = true) (hM : M a = some (.inr (ci_T, fs))) (hl2 : 3 < fs.length) (fs2 : List Value) (hfs : fs.set 3 v = fs2) (kk : VV g x (mp_u M a (.inr (ci_T, fs2))) k n q L rest) : VV g x M k n pc L (v :: .ref a :: rest) := v_put C q hinT tyXT tyXT_ok nmXT rfl 3 (by decide) al_82 (Or.inl rfl) rfl (by decide +kernel) hd hq hn hfit hM hl2 fs2 hfs kk
theorem gt_XS_18 (C : CX g x cc RXS fr ce sl lc) (q : Nat) {a : Nat} {fs : List Value} {v : Value} (hd : decode cc pc = .ok (.getfield 18, 3)) (hq : pc + 3 = q) (hM : M a = some (.inr (ci_S, fs))) (hv : fs[0]? = some v) (kk : VV g x M k n q L (v :: rest)) : VV g x M k n pc L (.ref a :: rest) := v_get C q hinS rfl 0 (by decide) al_87 (Or.inl rfl) hd hq hM hv kk
theorem pt_XS_18 (C : CX g x cc RXS fr ce sl lc) (I : IX x) (q : Nat) {a : Nat} {fs : List Value} {v : Value} (hd : decode cc pc = .ok (.putfield 18, 3)) (hq : pc + 3 = q) (hn : narrow .int v = v) (hfit : fits .int v = true) (hM : M a = some (.inr (ci_S, fs))) (hl2 : 0 < fs.length) (fs2 : List Value) (hfs : fs.set 0 v = fs2) (kk : VV g x (mp_u M a (.inr (ci_S, fs2))) k n q L rest) : VV g x M k n pc L (v :: .ref a :: rest) := v_putF C I q hinS tyXS tyXS_ok nmXS rfl 0 (by decide) al_87 (Or.inl rfl) rfl rfl (by decide +kernel) hd hq hn hfit hM hl2 fs2 hfs kk
theorem gt_XS_22 (C : CX g x cc RXS fr ce sl lc) (q : Nat) {a : Nat} {fs : List Value} {v : Value} (hd : decode cc pc = .ok (.getfield 22, 3)) (hq : pc + 3 = q) (hM : M a = some (.inr (ci_S, fs))) (hv : fs[1]? = some v) (kk : VV g x M k n q L (v :: rest)) : VV g x M k n pc L (.ref a :: rest) := v_get C q hinS rfl 1 (by decide) al_88 (Or.inl rfl) hd hq hM hv kk
theorem pt_XS_22 (C : CX g x cc RXS fr ce sl lc) (I : IX x) (q : Nat) {a : Nat} {fs : List Value} {v : Value} (hd : decode cc pc = .ok (.putfield 22, 3)) (hq : pc + 3 = q) (hn : narrow .int v = v) (hfit : fits .int v = true) (hM : M a = some (.inr (ci_S, fs))) (hl2 : 1 < fs.length) (fs2 : List Value) (hfs : fs.set 1 v = fs2) (kk : VV g x (mp_u M a (.inr (ci_S, fs2))) k n q L rest) : VV g x M k n pc L (v :: .ref a :: rest) := v_putF C I q hinS tyXS tyXS_ok nmXS rfl 1 (by decide) al_88 (Or.inl rfl) rfl rfl (by decide +kernel) hd hq hn hfit hM hl2 fs2 hfs kk
theorem gt_XS_27 (C : CX g x cc RXS fr ce sl lc) (q : Nat) {a : Nat} {fs : List Value} {v : Value} (hd : decode cc pc = .ok (.getfield 27, 3)) (hq : pc + 3 = q) (hM : M a = some (.inr (ci_S, fs))) (hv : fs[2]? = some v) (kk : VV g x M k n q L (v :: rest)) : VV g x M k n pc L (.ref a :: rest) := v_get C q hinS rfl 2 (by decide) al_89 (Or.inl rfl) hd hq hM hv kk
theorem pt_XS_27 (C : CX g x cc RXS fr ce sl lc) (I : IX x) (q : Nat) {a : Nat} {fs : List Value} {v : Value} (hd : decode cc pc = .ok (.putfield 27, 3)) (hq : pc + 3 = q) (hn : narrow (.array (.object "WideStore$Entry")) v = v) (hfit : fits (.array (.object "WideStore$Entry")) v = true) (hM : M a = some (.inr (ci_S, fs))) (hl2 : 2 < fs.length) (fs2 : List Value) (hfs : fs.set 2 v = fs2) (kk : VV g x (mp_u M a (.inr (ci_S, fs2))) k n q L rest) : VV g x M k n pc L (v :: .ref a :: rest) := v_putF C I q hinS tyXS tyXS_ok nmXS rfl 2 (by decide) al_89 (Or.inl rfl) rfl rfl (by decide +kernel) hd hq hn hfit hM hl2 fs2 hfs kk
theorem gt_XS_34 (C : CX g x cc RXS fr ce sl lc) (q : Nat) {a : Nat} {fs : List Value} {v : Value} (hd : decode cc pc = .ok (.getfield 34, 3)) (hq : pc + 3 = q) (hM : M a = some (.inr (ci_S, fs))) (hv : fs[3]? = some v) (kk : VV g x M k n q L (v :: rest)) : VV g x M k n pc L (.ref a :: rest) := v_get C q hinS rfl 3 (by decide) al_90 (Or.inl rfl) hd hq hM hv kk
theorem pt_XS_34 (C : CX g x cc RXS fr ce sl lc) (I : IX x) (q : Nat) {a : Nat} {fs : List Value} {v : Value} (hd : decode cc pc = .ok (.putfield 34, 3)) (hq : pc + 3 = q) (hn : narrow (.object "java/util/ArrayList") v = v) (hfit : fits (.object "java/util/ArrayList") v = true) (hM : M a = some (.inr (ci_S, fs))) (hl2 : 3 < fs.length) (fs2 : List Value) (hfs : fs.set 3 v = fs2) (kk : VV g x (mp_u M a (.inr (ci_S, fs2))) k n q L rest) : VV g x M k n pc L (v :: .ref a :: rest) := v_putF C I q hinS tyXS tyXS_ok nmXS rfl 3 (by decide) al_90 (Or.inl rfl) rfl rfl (by decide +kernel) hd hq hn hfit hM hl2 fs2 hfs kk
theorem gt_XS_43 (C : CX g x cc RXS fr ce sl lc) (q : Nat) {a : Nat} {fs : List Value} {v : Value} (hd : decode cc pc = .ok (.getfield 43, 3)) (hq : pc + 3 = q) (hM : M a = some (.inr (ci_S, fs))) (hv : fs[4]? = some v) (kk : VV g x M k n q L (v :: rest)) : VV g x M k n pc L (.ref a :: rest) := v_get C q hinS rfl 4 (by decide) al_91 (Or.inl rfl) hd hq hM hv kk
theorem pt_XS_43 (C : CX g x cc RXS fr ce sl lc) (q : Nat) {a : Nat} {fs : List Value} {v : Value} (hd : decode cc pc = .ok (.putfield 43, 3)) (hq : pc + 3 = q) (hn : narrow (.object "WideStore$Table") v = v) (hfit : fits (.object "WideStore$Table") v = true) (hM : M a = some (.inr (ci_S, fs))) (hl2 : 4 < fs.length) (fs2 : List Value) (hfs : fs.set 4 v = fs2) (kk : VV g x (mp_u M a (.inr (ci_S, fs2))) k n q L rest) : VV g x M k n pc L (v :: .ref a :: rest) := v_put C q hinS tyXS tyXS_ok nmXS rfl 4 (by decide) al_91 (Or.inl rfl) rfl (by decide +kernel) hd hq hn hfit hM hl2 fs2 hfs kk
theorem gt_XS_47 (C : CX g x cc RXS fr ce sl lc) (q : Nat) {a : Nat} {fs : List Value} {v : Value} (hd : decode cc pc = .ok (.getfield 47, 3)) (hq : pc + 3 = q) (hM : M a = some (.inr (ci_S, fs))) (hv : fs[5]? = some v) (kk : VV g x M k n q L (v :: rest)) : VV g x M k n pc L (.ref a :: rest) := v_get C q hinS rfl 5 (by decide) al_92 (Or.inl rfl) hd hq hM hv kk
theorem pt_XS_47 (C : CX g x cc RXS fr ce sl lc) (q : Nat) {a : Nat} {fs : List Value} {v : Value} (hd : decode cc pc = .ok (.putfield 47, 3)) (hq : pc + 3 = q) (hn : narrow .int v = v) (hfit : fits .int v = true) (hM : M a = some (.inr (ci_S, fs))) (hl2 : 5 < fs.length) (fs2 : List Value) (hfs : fs.set 5 v = fs2) (kk : VV g x (mp_u M a (.inr (ci_S, fs2))) k n q L rest) : VV g x M k n pc L (v :: .ref a :: rest) := v_put C q hinS tyXS tyXS_ok nmXS rfl 5 (by decide) al_92 (Or.inl rfl) rfl (by decide +kernel) hd hq hn hfit hM hl2 fs2 hfs kk
theorem gt_XS_50 (C : CX g x cc RXS fr ce sl lc) (q : Nat) {a : Nat} {fs : List Value} {v : Value} (hd : decode cc pc = .ok (.getfield 50, 3)) (hq : pc + 3 = q) (hM : M a = some (.inr (ci_S, fs))) (hv : fs[6]? = some v) (kk : VV g x M k n q L (v :: rest)) : VV g x M k n pc L (.ref a :: rest) := v_get C q hinS rfl 6 (by decide) al_93 (Or.inl rfl) hd hq hM hv kk
theorem pt_XS_50 (C : CX g x cc RXS fr ce sl lc) (q : Nat) {a : Nat} {fs : List Value} {v : Value} (hd : decode cc pc = .ok (.putfield 50, 3)) (hq : pc + 3 = q) (hn : narrow .int v = v) (hfit : fits .int v = true) (hM : M a = some (.inr (ci_S, fs))) (hl2 : 6 < fs.length) (fs2 : List Value) (hfs : fs.set 6 v = fs2) (kk : VV g x (mp_u M a (.inr (ci_S, fs2))) k n q L rest) : VV g x M k n pc L (v :: .ref a :: rest) := v_put C q hinS tyXS tyXS_ok nmXS rfl 6 (by decide) al_93 (Or.inl rfl) rfl (by decide +kernel) hd hq hn hfit hM hl2 fs2 hfs kk
theorem gt_XS_53 (C : CX g x cc RXS fr ce sl lc) (q : Nat) {a : Nat} {fs : List Value} {v : Value} (hd : decode cc pc = .ok (.getfield 53, 3)) (hq : pc + 3 = q) (hM : M a = some (.inr (ci_S, fs))) (hv : fs[7]? = some v) (kk : VV g x M k n q L (v :: rest)) : VV g x M k n pc L (.ref a :: rest) := v_get C q hinS rfl 7 (by decide) al_94 (Or.inl rfl) hd hq hM hv kk
theorem pt_XS_53 (C : CX g x cc RXS fr ce sl lc) (q : Nat) {a : Nat} {fs : List Value} {v : Value} (hd : decode cc pc = .ok (.putfield 53, 3)) (hq : pc + 3 = q) (hn : narrow .int v = v) (hfit : fits .int v = true) (hM : M a = some (.inr (ci_S, fs))) (hl2 : 7 < fs.length) (fs2 : List Value) (hfs : fs.set 7 v = fs2) (kk : VV g x (mp_u M a (.inr (ci_S, fs2))) k n q L rest) : VV g x M k n pc L (v :: .ref a :: rest) := v_put C q hinS tyXS tyXS_ok nmXS rfl 7 (by decide) al_94 (Or.inl rfl) rfl (by decide +kernel) hd hq hn hfit hM hl2 fs2 hfs kk
theorem cl_XL_21 {st0 As : List Value} {Po : Option Value → mp_M → Prop} {lv mc ms : Nat} (C : CX g x cc RXL fr ce sl lc) {b : Nat} {fs : List Value} (hM : Ct g yXS_put cXS_put 7 (some .boolean) lv (.ref b :: As) M Po mc ms) (hb : M b = some (.inr (ci_S, fs))) (hdg : decode cc pc = .ok (.invokevirtual 21, 3)) (hst : st0 = As.reverse ++ .ref b :: rest) (hnA : As.length = 5) (hfr : lv + 1 ≤ fr) (hlc : 8 + (7 + 11) + 40 * lv ≤ lc) (hW : (rest.map fun v => v.category).sum ≤ 8) (hk : k + mc ≤ ce) (hn : n + ms ≤ sl) : RN g x M k n pc L st0 rest Po mc ms := rn_V C hM hb rfl al_103 al_104 al_105 al_20 al_106 ⟨by decide, by decide, by decide +kernel⟩ hnA hst hdg hfr hlc hW hk hn
theorem cl_XS_56 {st0 As : List Value} {Po : Option Value → mp_M → Prop} {lv mc ms : Nat} (C : CX g x cc RXS fr ce sl lc) (hM : Ct g yXS_isPlace cXS_isPlace 2 (some .boolean) lv As M Po mc ms) (hdg : decode cc pc = .ok (.invokestatic 56, 3)) (hst : st0 = As.reverse ++ rest) (hnA : As.length = 2) (hfr : lv + 1 ≤ fr) (hlc : 8 + (2 + 11) + 40 * lv ≤ lc) (hW : (rest.map fun v => v.category).sum ≤ 8) (hk : k + mc ≤ ce) (hn : n + ms ≤ sl) : RN g x M k n pc L st0 rest Po mc ms := rn_S C hM al_107 al_108 al_20 al_109 ⟨by decide, by decide, by decide +kernel⟩ hnA hst hdg hfr hlc hW hk hn
theorem cl_XS_60 {st0 As : List Value} {Po : Option Value → mp_M → Prop} {lv mc ms : Nat} (C : CX g x cc RXS fr ce sl lc) (hM : Ct g yXS_isStamp cXS_isStamp 1 (some .boolean) lv As M Po mc ms) (hdg : decode cc pc = .ok (.invokestatic 60, 3)) (hst : st0 = As.reverse ++ rest) (hnA : As.length = 1) (hfr : lv + 1 ≤ fr) (hlc : 8 + (1 + 11) + 40 * lv ≤ lc) (hW : (rest.map fun v => v.category).sum ≤ 8) (hk : k + mc ≤ ce) (hn : n + ms ≤ sl) : RN g x M k n pc L st0 rest Po mc ms := rn_S C hM al_110 al_111 al_20 al_112 ⟨by decide, by decide, by decide +kernel⟩ hnA hst hdg hfr hlc hW hk hn
theorem ld_XS_64 (C : CX g x cc RXS fr ce sl lc) (q : Nat) (hd : decode cc pc = .ok (.ldc 64, 2)) (hq : pc + 2 = q) (kk : VV g x M k n q L (.int 2147483647 :: rest)) : VV g x M k n pc L rest := v_ldc C q al_113 hd hq kk
theorem cl_XS_65 {st0 As : List Value} {Po : Option Value → mp_M → Prop} {lv mc ms : Nat} (C : CX g x cc RXS fr ce sl lc) (hM : Ct g yXS_pointSlot cXS_pointSlot 2 (some .int) lv As M Po mc ms) (hdg : decode cc pc = .ok (.invokestatic 65, 3)) (hst : st0 = As.reverse ++ rest) (hnA : As.length = 2) (hfr : lv + 1 ≤ fr) (hlc : 8 + (2 + 11) + 40 * lv ≤ lc) (hW : (rest.map fun v => v.category).sum ≤ 8) (hk : k + mc ≤ ce) (hn : n + ms ≤ sl) : RN g x M k n pc L st0 rest Po mc ms := rn_S C hM al_115 al_116 al_20 al_117 ⟨by decide, by decide, by decide +kernel⟩ hnA hst hdg hfr hlc hW hk hn
theorem cl_XS_68 {st0 As : List Value} {Po : Option Value → mp_M → Prop} {lv mc ms : Nat} (C : CX g x cc RXS fr ce sl lc) {b : Nat} (hM : Ct g yXE_init cXE_init 6 none lv (.ref b :: As) M Po mc ms) (hdg : decode cc pc = .ok (.invokespecial 68, 3)) (hst : st0 = As.reverse ++ .ref b :: rest) (hnA : As.length = 5) (hfr : lv + 1 ≤ fr) (hlc : 8 + (6 + 11) + 40 * lv ≤ lc) (hW : (rest.map fun v => v.category).sum ≤ 8) (hk : k + mc ≤ ce) (hn : n + ms ≤ sl) : RN g x M k n pc L st0 rest Po mc ms := rn_I C hM rfl al_118 al_119 al_27 al_120 ⟨by decide, by decide, by decide +kernel⟩ hnA hst hdg hfr hlc hW hk hn
theorem oi_XE_1 (C : CX g x cc RXE fr ce sl lc) (q : Nat) {a : Nat} (hd : decode cc pc = .ok (.invokespecial 1, 3)) (hq : pc + 3 = q) (hfr : 1 ≤ fr) (hlo : (rest.map fun v => v.category).sum + 12 ≤ lc) (kk : VV g x M k n q L rest) : VV g x M k n pc L (.ref a :: rest) := v_objInit C q al_121 al_39 al_40 hd hq hfr hlo kk
theorem gt_XE_7 (C : CX g x cc RXE fr ce sl lc) (q : Nat) {a : Nat} {fs : List Value} {v : Value} (hd : decode cc pc = .ok (.getfield 7, 3)) (hq : pc + 3 = q) (hM : M a = some (.inr (ci_E, fs))) (hv : fs[0]? = some v) (kk : VV g x M k n q L (v :: rest)) : VV g x M k n pc L (.ref a :: rest) := v_get C q hinE rfl 0 (by decide) al_122 (Or.inl rfl) hd hq hM hv kk
theorem pt_XE_7 (C : CX g x cc RXE fr ce sl lc) (I : IX x) (q : Nat) {a : Nat} {fs : List Value} {v : Value} (hd : decode cc pc = .ok (.putfield 7, 3)) (hq : pc + 3 = q) (hn : narrow .int v = v) (hfit : fits .int v = true) (hM : M a = some (.inr (ci_E, fs))) (hl2 : 0 < fs.length) (fs2 : List Value) (hfs : fs.set 0 v = fs2) (kk : VV g x (mp_u M a (.inr (ci_E, fs2))) k n q L rest) : VV g x M k n pc L (v :: .ref a :: rest) := v_putF C I q hinE tyXE tyXE_ok nmXE rfl 0 (by decide) al_122 (Or.inl rfl) rfl rfl (by decide +kernel) hd hq hn hfit hM hl2 fs2 hfs kk
theorem gt_XT_34 (C : CX g x cc RXT fr ce sl lc) (q : Nat) {a : Nat} {fs : List Value} {v : Value} (hd : decode cc pc = .ok (.getfield 34, 3)) (hq : pc + 3 = q) (hM : M a = some (.inr (ci_E, fs))) (hv : fs[0]? = some v) (kk : VV g x M k n q L (v :: rest)) : VV g x M k n pc L (.ref a :: rest) := v_get C q hinE rfl 0 (by decide) al_123 (Or.inl rfl) hd hq hM hv kk
theorem gt_XS_153 (C : CX g x cc RXS fr ce sl lc) (q : Nat) {a : Nat} {fs : List Value} {v : Value} (hd : decode cc pc = .ok (.getfield 153, 3)) (hq : pc + 3 = q) (hM : M a = some (.inr (ci_E, fs))) (hv : fs[0]? = some v) (kk : VV g x M k n q L (v :: rest)) : VV g x M k n pc L (.ref a :: rest) := v_get C q hinE rfl 0 (by decide) al_124 (Or.inl rfl) hd hq hM hv kk
theorem gt_XE_13 (C : CX g x cc RXE fr ce sl lc) (q : Nat) {a : Nat} {fs : List Value} {v : Value} (hd : decode cc pc = .ok (.getfield 13, 3)) (hq : pc + 3 = q) (hM : M a = some (.inr (ci_E, fs))) (hv : fs[1]? = some v) (kk : VV g x M k n q L (v :: rest)) : VV g x M k n pc L (.ref a :: rest) := v_get C q hinE rfl 1 (by decide) al_125 (Or.inl rfl) hd hq hM hv kk
theorem pt_XE_13 (C : CX g x cc RXE fr ce sl lc) (I : IX x) (q : Nat) {a : Nat} {fs : List Value} {v : Value} (hd : decode cc pc = .ok (.putfield 13, 3)) (hq : pc + 3 = q) (hn : narrow .int v = v) (hfit : fits .int v = true) (hM : M a = some (.inr (ci_E, fs))) (hl2 : 1 < fs.length) (fs2 : List Value) (hfs : fs.set 1 v = fs2) (kk : VV g x (mp_u M a (.inr (ci_E, fs2))) k n q L rest) : VV g x M k n pc L (v :: .ref a :: rest) := v_putF C I q hinE tyXE tyXE_ok nmXE rfl 1 (by decide) al_125 (Or.inl rfl) rfl rfl (by decide +kernel) hd hq hn hfit hM hl2 fs2 hfs kk
theorem gt_XT_31 (C : CX g x cc RXT fr ce sl lc) (q : Nat) {a : Nat} {fs : List Value} {v : Value} (hd : decode cc pc = .ok (.getfield 31, 3)) (hq : pc + 3 = q) (hM : M a = some (.inr (ci_E, fs))) (hv : fs[1]? = some v) (kk : VV g x M k n q L (v :: rest)) : VV g x M k n pc L (.ref a :: rest) := v_get C q hinE rfl 1 (by decide) al_126 (Or.inl rfl) hd hq hM hv kk
theorem gt_XE_16 (C : CX g x cc RXE fr ce sl lc) (q : Nat) {a : Nat} {fs : List Value} {v : Value} (hd : decode cc pc = .ok (.getfield 16, 3)) (hq : pc + 3 = q) (hM : M a = some (.inr (ci_E, fs))) (hv : fs[2]? = some v) (kk : VV g x M k n q L (v :: rest)) : VV g x M k n pc L (.ref a :: rest) := v_get C q hinE rfl 2 (by decide) al_127 (Or.inl rfl) hd hq hM hv kk
theorem pt_XE_16 (C : CX g x cc RXE fr ce sl lc) (I : IX x) (q : Nat) {a : Nat} {fs : List Value} {v : Value} (hd : decode cc pc = .ok (.putfield 16, 3)) (hq : pc + 3 = q) (hn : narrow .int v = v) (hfit : fits .int v = true) (hM : M a = some (.inr (ci_E, fs))) (hl2 : 2 < fs.length) (fs2 : List Value) (hfs : fs.set 2 v = fs2) (kk : VV g x (mp_u M a (.inr (ci_E, fs2))) k n q L rest) : VV g x M k n pc L (v :: .ref a :: rest) := v_putF C I q hinE tyXE tyXE_ok nmXE rfl 2 (by decide) al_127 (Or.inl rfl) rfl rfl (by decide +kernel) hd hq hn hfit hM hl2 fs2 hfs kk
theorem gt_XT_49 (C : CX g x cc RXT fr ce sl lc) (q : Nat) {a : Nat} {fs : List Value} {v : Value} (hd : decode cc pc = .ok (.getfield 49, 3)) (hq : pc + 3 = q) (hM : M a = some (.inr (ci_E, fs))) (hv : fs[2]? = some v) (kk : VV g x M k n q L (v :: rest)) : VV g x M k n pc L (.ref a :: rest) := v_get C q hinE rfl 2 (by decide) al_128 (Or.inl rfl) hd hq hM hv kk
theorem gt_XS_86 (C : CX g x cc RXS fr ce sl lc) (q : Nat) {a : Nat} {fs : List Value} {v : Value} (hd : decode cc pc = .ok (.getfield 86, 3)) (hq : pc + 3 = q) (hM : M a = some (.inr (ci_E, fs))) (hv : fs[2]? = some v) (kk : VV g x M k n q L (v :: rest)) : VV g x M k n pc L (.ref a :: rest) := v_get C q hinE rfl 2 (by decide) al_129 (Or.inl rfl) hd hq hM hv kk
theorem gt_XE_19 (C : CX g x cc RXE fr ce sl lc) (q : Nat) {a : Nat} {fs : List Value} {v : Value} (hd : decode cc pc = .ok (.getfield 19, 3)) (hq : pc + 3 = q) (hM : M a = some (.inr (ci_E, fs))) (hv : fs[3]? = some v) (kk : VV g x M k n q L (v :: rest)) : VV g x M k n pc L (.ref a :: rest) := v_get C q hinE rfl 3 (by decide) al_130 (Or.inl rfl) hd hq hM hv kk
theorem pt_XE_19 (C : CX g x cc RXE fr ce sl lc) (I : IX x) (q : Nat) {a : Nat} {fs : List Value} {v : Value} (hd : decode cc pc = .ok (.putfield 19, 3)) (hq : pc + 3 = q) (hn : narrow .int v = v) (hfit : fits .int v = true) (hM : M a = some (.inr (ci_E, fs))) (hl2 : 3 < fs.length) (fs2 : List Value) (hfs : fs.set 3 v = fs2) (kk : VV g x (mp_u M a (.inr (ci_E, fs2))) k n q L rest) : VV g x M k n pc L (v :: .ref a :: rest) := v_putF C I q hinE tyXE tyXE_ok nmXE rfl 3 (by decide) al_130 (Or.inl rfl) rfl rfl (by decide +kernel) hd hq hn hfit hM hl2 fs2 hfs kk
theorem gt_XS_83 (C : CX g x cc RXS fr ce sl lc) (q : Nat) {a : Nat} {fs : List Value} {v : Value} (hd : decode cc pc = .ok (.getfield 83, 3)) (hq : pc + 3 = q) (hM : M a = some (.inr (ci_E, fs))) (hv : fs[3]? = some v) (kk : VV g x M k n q L (v :: rest)) : VV g x M k n pc L (.ref a :: rest) := v_get C q hinE rfl 3 (by decide) al_131 (Or.inl rfl) hd hq hM hv kk
theorem gt_XE_22 (C : CX g x cc RXE fr ce sl lc) (q : Nat) {a : Nat} {fs : List Value} {v : Value} (hd : decode cc pc = .ok (.getfield 22, 3)) (hq : pc + 3 = q) (hM : M a = some (.inr (ci_E, fs))) (hv : fs[4]? = some v) (kk : VV g x M k n q L (v :: rest)) : VV g x M k n pc L (.ref a :: rest) := v_get C q hinE rfl 4 (by decide) al_132 (Or.inl rfl) hd hq hM hv kk
theorem pt_XE_22 (C : CX g x cc RXE fr ce sl lc) (I : IX x) (q : Nat) {a : Nat} {fs : List Value} {v : Value} (hd : decode cc pc = .ok (.putfield 22, 3)) (hq : pc + 3 = q) (hn : narrow .int v = v) (hfit : fits .int v = true) (hM : M a = some (.inr (ci_E, fs))) (hl2 : 4 < fs.length) (fs2 : List Value) (hfs : fs.set 4 v = fs2) (kk : VV g x (mp_u M a (.inr (ci_E, fs2))) k n q L rest) : VV g x M k n pc L (v :: .ref a :: rest) := v_putF C I q hinE tyXE tyXE_ok nmXE rfl 4 (by decide) al_132 (Or.inl rfl) rfl rfl (by decide +kernel) hd hq hn hfit hM hl2 fs2 hfs kk
theorem gt_XT_63 (C : CX g x cc RXT fr ce sl lc) (q : Nat) {a : Nat} {fs : List Value} {v : Value} (hd : decode cc pc = .ok (.getfield 63, 3)) (hq : pc + 3 = q) (hM : M a = some (.inr (ci_E, fs))) (hv : fs[4]? = some v) (kk : VV g x M k n q L (v :: rest)) : VV g x M k n pc L (.ref a :: rest) := v_get C q hinE rfl 4 (by decide) al_133 (Or.inl rfl) hd hq hM hv kk
theorem gt_XS_156 (C : CX g x cc RXS fr ce sl lc) (q : Nat) {a : Nat} {fs : List Value} {v : Value} (hd : decode cc pc = .ok (.getfield 156, 3)) (hq : pc + 3 = q) (hM : M a = some (.inr (ci_E, fs))) (hv : fs[4]? = some v) (kk : VV g x M k n q L (v :: rest)) : VV g x M k n pc L (.ref a :: rest) := v_get C q hinE rfl 4 (by decide) al_134 (Or.inl rfl) hd hq hM hv kk
theorem cl_XS_71 {st0 As : List Value} {Po : Option Value → mp_M → Prop} {lv mc ms : Nat} (C : CX g x cc RXS fr ce sl lc) {b : Nat} {fs : List Value} (hM : Ct g yXS_addEntry cXS_addEntry 2 (some .boolean) lv (.ref b :: As) M Po mc ms) (hb : M b = some (.inr (ci_S, fs))) (hdg : decode cc pc = .ok (.invokevirtual 71, 3)) (hst : st0 = As.reverse ++ .ref b :: rest) (hnA : As.length = 1) (hfr : lv + 1 ≤ fr) (hlc : 8 + (2 + 11) + 40 * lv ≤ lc) (hW : (rest.map fun v => v.category).sum ≤ 8) (hk : k + mc ≤ ce) (hn : n + ms ≤ sl) : RN g x M k n pc L st0 rest Po mc ms := rn_V C hM hb rfl al_140 al_141 al_0 al_20 al_142 ⟨by decide, by decide, by decide +kernel⟩ hnA hst hdg hfr hlc hW hk hn
theorem cl_XS_113 {st0 As : List Value} {Po : Option Value → mp_M → Prop} {lv mc ms : Nat} (C : CX g x cc RXS fr ce sl lc) {b : Nat} {fs : List Value} (hM : Ct g yXT_addWinner cXT_addWinner 3 none lv (.ref b :: As) M Po mc ms) (hb : M b = some (.inr (ci_T, fs))) (hdg : decode cc pc = .ok (.invokevirtual 113, 3)) (hst : st0 = As.reverse ++ .ref b :: rest) (hnA : As.length = 1) (hfr : lv + 1 ≤ fr) (hlc : 8 + (3 + 11) + 40 * lv ≤ lc) (hW : (rest.map fun v => v.category).sum ≤ 8) (hk : k + mc ≤ ce) (hn : n + ms ≤ sl) : RN g x M k n pc L st0 rest Po mc ms := rn_V C hM hb rfl al_143 al_144 al_145 al_25 al_146 ⟨by decide, by decide, by decide +kernel⟩ hnA hst hdg hfr hlc hW hk hn
theorem cl_XT_37 {st0 As : List Value} {Po : Option Value → mp_M → Prop} {lv mc ms : Nat} (C : CX g x cc RXT fr ce sl lc) {b : Nat} {fs : List Value} (hM : Ct g yXE_winsOver cXE_winsOver 2 (some .boolean) lv (.ref b :: As) M Po mc ms) (hb : M b = some (.inr (ci_E, fs))) (hdg : decode cc pc = .ok (.invokevirtual 37, 3)) (hst : st0 = As.reverse ++ .ref b :: rest) (hnA : As.length = 1) (hfr : lv + 1 ≤ fr) (hlc : 8 + (2 + 11) + 40 * lv ≤ lc) (hW : (rest.map fun v => v.category).sum ≤ 8) (hk : k + mc ≤ ce) (hn : n + ms ≤ sl) : RN g x M k n pc L st0 rest Po mc ms := rn_V C hM hb rfl al_147 al_148 al_149 al_27 al_150 ⟨by decide, by decide, by decide +kernel⟩ hnA hst hdg hfr hlc hW hk hn
theorem cl_XS_95 {st0 As : List Value} {Po : Option Value → mp_M → Prop} {lv mc ms : Nat} (C : CX g x cc RXS fr ce sl lc) {b : Nat} {fs : List Value} (hM : Ct g yXS_flushMemory cXS_flushMemory 3 none lv (.ref b :: As) M Po mc ms) (hb : M b = some (.inr (ci_S, fs))) (hdg : decode cc pc = .ok (.invokevirtual 95, 3)) (hst : st0 = As.reverse ++ .ref b :: rest) (hnA : As.length = 0) (hfr : lv + 1 ≤ fr) (hlc : 8 + (3 + 11) + 40 * lv ≤ lc) (hW : (rest.map fun v => v.category).sum ≤ 8) (hk : k + mc ≤ ce) (hn : n + ms ≤ sl) : RN g x M k n pc L st0 rest Po mc ms := rn_V C hM hb rfl al_151 al_152 al_1 al_20 al_153 ⟨by decide, by decide, by decide +kernel⟩ hnA hst hdg hfr hlc hW hk hn
theorem cl_XS_129 {st0 As : List Value} {Po : Option Value → mp_M → Prop} {lv mc ms : Nat} (C : CX g x cc RXS fr ce sl lc) {b : Nat} {fs : List Value} (hM : Ct g yXA_add cXA_add 2 (some .boolean) lv (.ref b :: As) M Po mc ms) (hb : M b = some (.inr (ci_A, fs))) (hdg : decode cc pc = .ok (.invokevirtual 129, 3)) (hst : st0 = As.reverse ++ .ref b :: rest) (hnA : As.length = 1) (hfr : lv + 1 ≤ fr) (hlc : 8 + (2 + 11) + 40 * lv ≤ lc) (hW : (rest.map fun v => v.category).sum ≤ 8) (hk : k + mc ≤ ce) (hn : n + ms ≤ sl) : RN g x M k n pc L st0 rest Po mc ms := rn_V C hM hb rfl al_154 al_155 al_156 al_24 al_157 ⟨by decide, by decide, by decide +kernel⟩ hnA hst hdg hfr hlc hW hk hn
theorem cl_XA_131 {st0 As : List Value} {Po : Option Value → mp_M → Prop} {lv mc ms : Nat} (C : CX g x cc RXA fr ce sl lc) {b : Nat} {fs : List Value} (hM : Ct g yXA_addp cXA_addp 4 none lv (.ref b :: As) M Po mc ms) (hb : M b = some (.inr (ci_A, fs))) (hdg : decode cc pc = .ok (.invokevirtual 131, 3)) (hst : st0 = As.reverse ++ .ref b :: rest) (hnA : As.length = 3) (hfr : lv + 1 ≤ fr) (hlc : 8 + (4 + 11) + 40 * lv ≤ lc) (hW : (rest.map fun v => v.category).sum ≤ 8) (hk : k + mc ≤ ce) (hn : n + ms ≤ sl) : RN g x M k n pc L st0 rest Po mc ms := rn_V C hM hb rfl al_158 al_159 al_2 al_24 al_160 ⟨by decide, by decide, by decide +kernel⟩ hnA hst hdg hfr hlc hW hk hn
theorem cl_XA_129 {st0 As : List Value} {Po : Option Value → mp_M → Prop} {lv mc ms : Nat} (C : CX g x cc RXA fr ce sl lc) {b : Nat} {fs : List Value} (hM : Ct g yXA_grow0 cXA_grow0 1 (some (.array (.object "java/lang/Object"))) lv (.ref b :: As) M Po mc ms) (hb : M b = some (.inr (ci_A, fs))) (hdg : decode cc pc = .ok (.invokevirtual 129, 3)) (hst : st0 = As.reverse ++ .ref b :: rest) (hnA : As.length = 0) (hfr : lv + 1 ≤ fr) (hlc : 8 + (1 + 11) + 40 * lv ≤ lc) (hW : (rest.map fun v => v.category).sum ≤ 8) (hk : k + mc ≤ ce) (hn : n + ms ≤ sl) : RN g x M k n pc L st0 rest Po mc ms := rn_V C hM hb rfl al_161 al_162 al_3 al_24 al_163 ⟨by decide, by decide, by decide +kernel⟩ hnA hst hdg hfr hlc hW hk hn
theorem cl_XA_69 {st0 As : List Value} {Po : Option Value → mp_M → Prop} {lv mc ms : Nat} (C : CX g x cc RXA fr ce sl lc) {b : Nat} {fs : List Value} (hM : Ct g yXA_grow1 cXA_grow1 4 (some (.array (.object "java/lang/Object"))) lv (.ref b :: As) M Po mc ms) (hb : M b = some (.inr (ci_A, fs))) (hdg : decode cc pc = .ok (.invokevirtual 69, 3)) (hst : st0 = As.reverse ++ .ref b :: rest) (hnA : As.length = 1) (hfr : lv + 1 ≤ fr) (hlc : 8 + (4 + 11) + 40 * lv ≤ lc) (hW : (rest.map fun v => v.category).sum ≤ 8) (hk : k + mc ≤ ce) (hn : n + ms ≤ sl) : RN g x M k n pc L st0 rest Po mc ms := rn_V C hM hb rfl al_164 al_165 al_4 al_24 al_166 ⟨by decide, by decide, by decide +kernel⟩ hnA hst hdg hfr hlc hW hk hn
theorem cl_XA_73 {st0 As : List Value} {Po : Option Value → mp_M → Prop} {lv mc ms : Nat} (C : CX g x cc RXA fr ce sl lc) (hM : Ct g yXU_newLength cXU_newLength 4 (some .int) lv As M Po mc ms) (hdg : decode cc pc = .ok (.invokestatic 73, 3)) (hst : st0 = As.reverse ++ rest) (hnA : As.length = 3) (hfr : lv + 1 ≤ fr) (hlc : 8 + (4 + 11) + 40 * lv ≤ lc) (hW : (rest.map fun v => v.category).sum ≤ 8) (hk : k + mc ≤ ce) (hn : n + ms ≤ sl) : RN g x M k n pc L st0 rest Po mc ms := rn_S C hM al_167 al_168 al_28 al_169 ⟨by decide, by decide, by decide +kernel⟩ hnA hst hdg hfr hlc hW hk hn
theorem max_XU_194 (C : CX g x cc RXU fr ce sl lc) (q : Nat) {a b : Int32} (hd : decode cc pc = .ok (.invokestatic 194, 3)) (hq : pc + 3 = q) (hfr : 1 ≤ fr) (hlo : (rest.map fun v => v.category).sum + 13 ≤ lc) (hk : k ≤ ce) (hn : n ≤ sl) (kk : VV g x M k n q L (.int (if a < b then b else a) :: rest)) : VV g x M k n pc L (.int b :: .int a :: rest) := v_max C q al_170 al_45 al_21 al_46 hd hq hfr hlo hk hn kk
theorem ld_XU_200 (C : CX g x cc RXU fr ce sl lc) (q : Nat) (hd : decode cc pc = .ok (.ldc 200, 2)) (hq : pc + 2 = q) (kk : VV g x M k n q L (.int 2147483639 :: rest)) : VV g x M k n pc L rest := v_ldc C q al_171 hd hq kk
theorem cl_XU_201 {st0 As : List Value} {Po : Option Value → mp_M → Prop} {lv mc ms : Nat} (C : CX g x cc RXU fr ce sl lc) (hM : Ct g yXU_hugeLength cXU_hugeLength 3 (some .int) lv As M Po mc ms) (hdg : decode cc pc = .ok (.invokestatic 201, 3)) (hst : st0 = As.reverse ++ rest) (hnA : As.length = 2) (hfr : lv + 1 ≤ fr) (hlc : 8 + (3 + 11) + 40 * lv ≤ lc) (hW : (rest.map fun v => v.category).sum ≤ 8) (hk : k + mc ≤ ce) (hn : n + ms ≤ sl) : RN g x M k n pc L st0 rest Po mc ms := rn_S C hM al_172 al_173 al_28 al_174 ⟨by decide, by decide, by decide +kernel⟩ hnA hst hdg hfr hlc hW hk hn
theorem cl_XA_66 {st0 As : List Value} {Po : Option Value → mp_M → Prop} {lv mc ms : Nat} (C : CX g x cc RXA fr ce sl lc) (hM : Ct g yXY_copyOf2 cXY_copyOf2 2 (some (.array (.object "java/lang/Object"))) lv As M Po mc ms) (hdg : decode cc pc = .ok (.invokestatic 66, 3)) (hst : st0 = As.reverse ++ rest) (hnA : As.length = 2) (hfr : lv + 1 ≤ fr) (hlc : 8 + (2 + 11) + 40 * lv ≤ lc) (hW : (rest.map fun v => v.category).sum ≤ 8) (hk : k + mc ≤ ce) (hn : n + ms ≤ sl) : RN g x M k n pc L st0 rest Po mc ms := rn_S C hM al_175 al_176 al_29 al_177 ⟨by decide, by decide, by decide +kernel⟩ hnA hst hdg hfr hlc hW hk hn
theorem cl_XY_300 {st0 As : List Value} {Po : Option Value → mp_M → Prop} {lv mc ms : Nat} (C : CX g x cc RXY fr ce sl lc) (hM : Ct g yXY_copyOf3 cXY_copyOf3 4 (some (.array (.object "java/lang/Object"))) lv As M Po mc ms) (hdg : decode cc pc = .ok (.invokestatic 300, 3)) (hst : st0 = As.reverse ++ rest) (hnA : As.length = 3) (hfr : lv + 1 ≤ fr) (hlc : 8 + (4 + 11) + 40 * lv ≤ lc) (hW : (rest.map fun v => v.category).sum ≤ 8) (hk : k + mc ≤ ce) (hn : n + ms ≤ sl) : RN g x M k n pc L st0 rest Po mc ms := rn_S C hM al_186 al_187 al_29 al_188 ⟨by decide, by decide, by decide +kernel⟩ hnA hst hdg hfr hlc hW hk hn
theorem na_XY_2 (C : CX g x cc RXY fr ce sl lc) (q : Nat) {i : Int32} (hd : decode cc pc = .ok (.anewarray 2, 3)) (hq : pc + 3 = q) (N : Nat) (hi : i = nI N) (hN : N < 100000) (hcells : k + 1 ≤ ce) (hslots : n + N ≤ sl) (kk : ∀ a : Nat, M a = none → VV g x (mp_u M a (.inl (gx_O g, N, .inr (.inr (.inr (.inr (fun _ => none))))))) (k + 1) (n + N) q L (.ref a :: rest)) : VV g x M k n pc L (.int i :: rest) := v_newq C q 1 rfl (fun s h => h.2.2.1) al_190 hd hq N hi hN hcells hslots kk
theorem min_XY_304 (C : CX g x cc RXY fr ce sl lc) (q : Nat) {a b : Int32} (hd : decode cc pc = .ok (.invokestatic 304, 3)) (hq : pc + 3 = q) (hfr : 1 ≤ fr) (hlo : (rest.map fun v => v.category).sum + 13 ≤ lc) (hk : k ≤ ce) (hn : n ≤ sl) (kk : VV g x M k n q L (.int (if b < a then b else a) :: rest)) : VV g x M k n pc L (.int b :: .int a :: rest) := v_min C q al_191 al_42 al_21 al_43 hd hq hfr hlo hk hn kk
theorem max_XA_79 (C : CX g x cc RXA fr ce sl lc) (q : Nat) {a b : Int32} (hd : decode cc pc = .ok (.invokestatic 79, 3)) (hq : pc + 3 = q) (hfr : 1 ≤ fr) (hlo : (rest.map fun v => v.category).sum + 13 ≤ lc) (hk : k ≤ ce) (hn : n ≤ sl) (kk : VV g x M k n q L (.int (if a < b then b else a) :: rest)) : VV g x M k n pc L (.int b :: .int a :: rest) := v_max C q al_195 al_45 al_21 al_46 hd hq hfr hlo hk hn kk
theorem na_XA_7 (C : CX g x cc RXA fr ce sl lc) (q : Nat) {i : Int32} (hd : decode cc pc = .ok (.anewarray 7, 3)) (hq : pc + 3 = q) (N : Nat) (hi : i = nI N) (hN : N < 100000) (hcells : k + 1 ≤ ce) (hslots : n + N ≤ sl) (kk : ∀ a : Nat, M a = none → VV g x (mp_u M a (.inl (gx_O g, N, .inr (.inr (.inr (.inr (fun _ => none))))))) (k + 1) (n + N) q L (.ref a :: rest)) : VV g x M k n pc L (.int i :: rest) := v_newq C q 1 rfl (fun s h => h.2.2.1) al_196 hd hq N hi hN hcells hslots kk
theorem cl_XS_117 {st0 As : List Value} {Po : Option Value → mp_M → Prop} {lv mc ms : Nat} (C : CX g x cc RXS fr ce sl lc) {b : Nat} {fs : List Value} (hM : Ct g yXA_size cXA_size 1 (some .int) lv (.ref b :: As) M Po mc ms) (hb : M b = some (.inr (ci_A, fs))) (hdg : decode cc pc = .ok (.invokevirtual 117, 3)) (hst : st0 = As.reverse ++ .ref b :: rest) (hnA : As.length = 0) (hfr : lv + 1 ≤ fr) (hlc : 8 + (1 + 11) + 40 * lv ≤ lc) (hW : (rest.map fun v => v.category).sum ≤ 8) (hk : k + mc ≤ ce) (hn : n + ms ≤ sl) : RN g x M k n pc L st0 rest Po mc ms := rn_V C hM hb rfl al_197 al_198 al_199 al_24 al_200 ⟨by decide, by decide, by decide +kernel⟩ hnA hst hdg hfr hlc hW hk hn
theorem cl_XS_133 {st0 As : List Value} {Po : Option Value → mp_M → Prop} {lv mc ms : Nat} (C : CX g x cc RXS fr ce sl lc) {b : Nat} {fs : List Value} (hM : Ct g yXS_newestAreOfOneTier cXS_newestAreOfOneTier 4 (some .boolean) lv (.ref b :: As) M Po mc ms) (hb : M b = some (.inr (ci_S, fs))) (hdg : decode cc pc = .ok (.invokevirtual 133, 3)) (hst : st0 = As.reverse ++ .ref b :: rest) (hnA : As.length = 0) (hfr : lv + 1 ≤ fr) (hlc : 8 + (4 + 11) + 40 * lv ≤ lc) (hW : (rest.map fun v => v.category).sum ≤ 8) (hk : k + mc ≤ ce) (hn : n + ms ≤ sl) : RN g x M k n pc L st0 rest Po mc ms := rn_V C hM hb rfl al_201 al_202 al_5 al_20 al_203 ⟨by decide, by decide, by decide +kernel⟩ hnA hst hdg hfr hlc hW hk hn
theorem cl_XS_119 {st0 As : List Value} {Po : Option Value → mp_M → Prop} {lv mc ms : Nat} (C : CX g x cc RXS fr ce sl lc) {b : Nat} {fs : List Value} (hM : Ct g yXA_get cXA_get 2 (some (.object "java/lang/Object")) lv (.ref b :: As) M Po mc ms) (hb : M b = some (.inr (ci_A, fs))) (hdg : decode cc pc = .ok (.invokevirtual 119, 3)) (hst : st0 = As.reverse ++ .ref b :: rest) (hnA : As.length = 1) (hfr : lv + 1 ≤ fr) (hlc : 8 + (2 + 11) + 40 * lv ≤ lc) (hW : (rest.map fun v => v.category).sum ≤ 8) (hk : k + mc ≤ ce) (hn : n + ms ≤ sl) : RN g x M k n pc L st0 rest Po mc ms := rn_V C hM hb rfl al_204 al_205 al_206 al_24 al_207 ⟨by decide, by decide, by decide +kernel⟩ hnA hst hdg hfr hlc hW hk hn
theorem cl_XA_118 {st0 As : List Value} {Po : Option Value → mp_M → Prop} {lv mc ms : Nat} (C : CX g x cc RXA fr ce sl lc) (hM : Ct g yXO_checkIndex cXO_checkIndex 2 (some .int) lv As M Po mc ms) (hdg : decode cc pc = .ok (.invokestatic 118, 3)) (hst : st0 = As.reverse ++ rest) (hnA : As.length = 2) (hfr : lv + 1 ≤ fr) (hlc : 8 + (2 + 11) + 40 * lv ≤ lc) (hW : (rest.map fun v => v.category).sum ≤ 8) (hk : k + mc ≤ ce) (hn : n + ms ≤ sl) : RN g x M k n pc L st0 rest Po mc ms := rn_S C hM al_208 al_209 al_31 al_210 ⟨by decide, by decide, by decide +kernel⟩ hnA hst hdg hfr hlc hW hk hn
theorem cl_XO_105 {st0 As : List Value} {Po : Option Value → mp_M → Prop} {lv mc ms : Nat} (C : CX g x cc RXO fr ce sl lc) (hM : Ct g yXP_checkIndex cXP_checkIndex 3 (some .int) lv As M Po mc ms) (hdg : decode cc pc = .ok (.invokestatic 105, 3)) (hst : st0 = As.reverse ++ rest) (hnA : As.length = 3) (hfr : lv + 1 ≤ fr) (hlc : 8 + (3 + 11) + 40 * lv ≤ lc) (hW : (rest.map fun v => v.category).sum ≤ 8) (hk : k + mc ≤ ce) (hn : n + ms ≤ sl) : RN g x M k n pc L st0 rest Po mc ms := rn_S C hM al_211 al_212 al_32 al_213 ⟨by decide, by decide, by decide +kernel⟩ hnA hst hdg hfr hlc hW hk hn
theorem cl_XA_123 {st0 As : List Value} {Po : Option Value → mp_M → Prop} {lv mc ms : Nat} (C : CX g x cc RXA fr ce sl lc) {b : Nat} {fs : List Value} (hM : Ct g yXA_elementData cXA_elementData 2 (some (.object "java/lang/Object")) lv (.ref b :: As) M Po mc ms) (hb : M b = some (.inr (ci_A, fs))) (hdg : decode cc pc = .ok (.invokevirtual 123, 3)) (hst : st0 = As.reverse ++ .ref b :: rest) (hnA : As.length = 1) (hfr : lv + 1 ≤ fr) (hlc : 8 + (2 + 11) + 40 * lv ≤ lc) (hW : (rest.map fun v => v.category).sum ≤ 8) (hk : k + mc ≤ ce) (hn : n + ms ≤ sl) : RN g x M k n pc L st0 rest Po mc ms := rn_V C hM hb rfl al_214 al_215 al_216 al_24 al_217 ⟨by decide, by decide, by decide +kernel⟩ hnA hst hdg hfr hlc hW hk hn
theorem cl_XS_106 {st0 As : List Value} {Po : Option Value → mp_M → Prop} {lv mc ms : Nat} (C : CX g x cc RXS fr ce sl lc) {b : Nat} {fs : List Value} (hM : Ct g yXS_mergeFrom cXS_mergeFrom 5 (some (.object "WideStore$Table")) lv (.ref b :: As) M Po mc ms) (hb : M b = some (.inr (ci_S, fs))) (hdg : decode cc pc = .ok (.invokevirtual 106, 3)) (hst : st0 = As.reverse ++ .ref b :: rest) (hnA : As.length = 2) (hfr : lv + 1 ≤ fr) (hlc : 8 + (5 + 11) + 40 * lv ≤ lc) (hW : (rest.map fun v => v.category).sum ≤ 8) (hk : k + mc ≤ ce) (hn : n + ms ≤ sl) : RN g x M k n pc L st0 rest Po mc ms := rn_V C hM hb rfl al_218 al_219 al_6 al_20 al_220 ⟨by decide, by decide, by decide +kernel⟩ hnA hst hdg hfr hlc hW hk hn
theorem cl_XS_136 {st0 As : List Value} {Po : Option Value → mp_M → Prop} {lv mc ms : Nat} (C : CX g x cc RXS fr ce sl lc) {b : Nat} {fs : List Value} (hM : Ct g yXT_addWinners cXT_addWinners 3 none lv (.ref b :: As) M Po mc ms) (hb : M b = some (.inr (ci_T, fs))) (hdg : decode cc pc = .ok (.invokevirtual 136, 3)) (hst : st0 = As.reverse ++ .ref b :: rest) (hnA : As.length = 1) (hfr : lv + 1 ≤ fr) (hlc : 8 + (3 + 11) + 40 * lv ≤ lc) (hW : (rest.map fun v => v.category).sum ≤ 8) (hk : k + mc ≤ ce) (hn : n + ms ≤ sl) : RN g x M k n pc L st0 rest Po mc ms := rn_V C hM hb rfl al_221 al_222 al_223 al_25 al_224 ⟨by decide, by decide, by decide +kernel⟩ hnA hst hdg hfr hlc hW hk hn
theorem cl_XT_41 {st0 As : List Value} {Po : Option Value → mp_M → Prop} {lv mc ms : Nat} (C : CX g x cc RXT fr ce sl lc) {b : Nat} {fs : List Value} (hM : Ct g yXT_addWinner cXT_addWinner 3 none lv (.ref b :: As) M Po mc ms) (hb : M b = some (.inr (ci_T, fs))) (hdg : decode cc pc = .ok (.invokevirtual 41, 3)) (hst : st0 = As.reverse ++ .ref b :: rest) (hnA : As.length = 1) (hfr : lv + 1 ≤ fr) (hlc : 8 + (3 + 11) + 40 * lv ≤ lc) (hW : (rest.map fun v => v.category).sum ≤ 8) (hk : k + mc ≤ ce) (hn : n + ms ≤ sl) : RN g x M k n pc L st0 rest Po mc ms := rn_V C hM hb rfl al_225 al_144 al_145 al_25 al_146 ⟨by decide, by decide, by decide +kernel⟩ hnA hst hdg hfr hlc hW hk hn
theorem cl_XS_140 {st0 As : List Value} {Po : Option Value → mp_M → Prop} {lv mc ms : Nat} (C : CX g x cc RXS fr ce sl lc) {b : Nat} {fs : List Value} (hM : Ct g yXT_dropCovered cXT_dropCovered 4 none lv (.ref b :: As) M Po mc ms) (hb : M b = some (.inr (ci_T, fs))) (hdg : decode cc pc = .ok (.invokevirtual 140, 3)) (hst : st0 = As.reverse ++ .ref b :: rest) (hnA : As.length = 0) (hfr : lv + 1 ≤ fr) (hlc : 8 + (4 + 11) + 40 * lv ≤ lc) (hW : (rest.map fun v => v.category).sum ≤ 8) (hk : k + mc ≤ ce) (hn : n + ms ≤ sl) : RN g x M k n pc L st0 rest Po mc ms := rn_V C hM hb rfl al_226 al_227 al_228 al_25 al_229 ⟨by decide, by decide, by decide +kernel⟩ hnA hst hdg hfr hlc hW hk hn
theorem cl_XT_52 {st0 As : List Value} {Po : Option Value → mp_M → Prop} {lv mc ms : Nat} (C : CX g x cc RXT fr ce sl lc) {b : Nat} {fs : List Value} (hM : Ct g yXT_pointAt cXT_pointAt 3 (some (.object "WideStore$Entry")) lv (.ref b :: As) M Po mc ms) (hb : M b = some (.inr (ci_T, fs))) (hdg : decode cc pc = .ok (.invokevirtual 52, 3)) (hst : st0 = As.reverse ++ .ref b :: rest) (hnA : As.length = 2) (hfr : lv + 1 ≤ fr) (hlc : 8 + (3 + 11) + 40 * lv ≤ lc) (hW : (rest.map fun v => v.category).sum ≤ 8) (hk : k + mc ≤ ce) (hn : n + ms ≤ sl) : RN g x M k n pc L st0 rest Po mc ms := rn_V C hM hb rfl al_230 al_231 al_232 al_25 al_233 ⟨by decide, by decide, by decide +kernel⟩ hnA hst hdg hfr hlc hW hk hn
theorem cl_XT_56 {st0 As : List Value} {Po : Option Value → mp_M → Prop} {lv mc ms : Nat} (C : CX g x cc RXT fr ce sl lc) {b : Nat} {fs : List Value} (hM : Ct g yXT_covers cXT_covers 7 (some .boolean) lv (.ref b :: As) M Po mc ms) (hb : M b = some (.inr (ci_T, fs))) (hdg : decode cc pc = .ok (.invokevirtual 56, 3)) (hst : st0 = As.reverse ++ .ref b :: rest) (hnA : As.length = 3) (hfr : lv + 1 ≤ fr) (hlc : 8 + (7 + 11) + 40 * lv ≤ lc) (hW : (rest.map fun v => v.category).sum ≤ 8) (hk : k + mc ≤ ce) (hn : n + ms ≤ sl) : RN g x M k n pc L st0 rest Po mc ms := rn_V C hM hb rfl al_234 al_235 al_236 al_25 al_237 ⟨by decide, by decide, by decide +kernel⟩ hnA hst hdg hfr hlc hW hk hn
theorem cl_XT_60 {st0 As : List Value} {Po : Option Value → mp_M → Prop} {lv mc ms : Nat} (C : CX g x cc RXT fr ce sl lc) {b : Nat} {fs : List Value} (hM : Ct g yXT_dropEntry cXT_dropEntry 2 none lv (.ref b :: As) M Po mc ms) (hb : M b = some (.inr (ci_T, fs))) (hdg : decode cc pc = .ok (.invokevirtual 60, 3)) (hst : st0 = As.reverse ++ .ref b :: rest) (hnA : As.length = 1) (hfr : lv + 1 ≤ fr) (hlc : 8 + (2 + 11) + 40 * lv ≤ lc) (hW : (rest.map fun v => v.category).sum ≤ 8) (hk : k + mc ≤ ce) (hn : n + ms ≤ sl) : RN g x M k n pc L st0 rest Po mc ms := rn_V C hM hb rfl al_240 al_241 al_7 al_25 al_242 ⟨by decide, by decide, by decide +kernel⟩ hnA hst hdg hfr hlc hW hk hn
theorem cl_XS_143 {st0 As : List Value} {Po : Option Value → mp_M → Prop} {lv mc ms : Nat} (C : CX g x cc RXS fr ce sl lc) {b : Nat} {fs : List Value} (hM : Ct g yXT_dropOld cXT_dropOld 5 none lv (.ref b :: As) M Po mc ms) (hb : M b = some (.inr (ci_T, fs))) (hdg : decode cc pc = .ok (.invokevirtual 143, 3)) (hst : st0 = As.reverse ++ .ref b :: rest) (hnA : As.length = 2) (hfr : lv + 1 ≤ fr) (hlc : 8 + (5 + 11) + 40 * lv ≤ lc) (hW : (rest.map fun v => v.category).sum ≤ 8) (hk : k + mc ≤ ce) (hn : n + ms ≤ sl) : RN g x M k n pc L st0 rest Po mc ms := rn_V C hM hb rfl al_243 al_244 al_245 al_25 al_246 ⟨by decide, by decide, by decide +kernel⟩ hnA hst hdg hfr hlc hW hk hn
theorem cl_XS_147 {st0 As : List Value} {Po : Option Value → mp_M → Prop} {lv mc ms : Nat} (C : CX g x cc RXS fr ce sl lc) {b : Nat} {fs : List Value} (hM : Ct g yXA_remove cXA_remove 4 (some (.object "java/lang/Object")) lv (.ref b :: As) M Po mc ms) (hb : M b = some (.inr (ci_A, fs))) (hdg : decode cc pc = .ok (.invokevirtual 147, 3)) (hst : st0 = As.reverse ++ .ref b :: rest) (hnA : As.length = 1) (hfr : lv + 1 ≤ fr) (hlc : 8 + (4 + 11) + 40 * lv ≤ lc) (hW : (rest.map fun v => v.category).sum ≤ 8) (hk : k + mc ≤ ce) (hn : n + ms ≤ sl) : RN g x M k n pc L st0 rest Po mc ms := rn_V C hM hb rfl al_247 al_248 al_249 al_24 al_250 ⟨by decide, by decide, by decide +kernel⟩ hnA hst hdg hfr hlc hW hk hn
theorem cl_XA_144 {st0 As : List Value} {Po : Option Value → mp_M → Prop} {lv mc ms : Nat} (C : CX g x cc RXA fr ce sl lc) {b : Nat} {fs : List Value} (hM : Ct g yXA_fastRemove cXA_fastRemove 4 none lv (.ref b :: As) M Po mc ms) (hb : M b = some (.inr (ci_A, fs))) (hdg : decode cc pc = .ok (.invokevirtual 144, 3)) (hst : st0 = As.reverse ++ .ref b :: rest) (hnA : As.length = 2) (hfr : lv + 1 ≤ fr) (hlc : 8 + (4 + 11) + 40 * lv ≤ lc) (hW : (rest.map fun v => v.category).sum ≤ 8) (hk : k + mc ≤ ce) (hn : n + ms ≤ sl) : RN g x M k n pc L st0 rest Po mc ms := rn_V C hM hb rfl al_251 al_252 al_8 al_24 al_253 ⟨by decide, by decide, by decide +kernel⟩ hnA hst hdg hfr hlc hW hk hn
theorem cl_XL_26 {st0 As : List Value} {Po : Option Value → mp_M → Prop} {lv mc ms : Nat} (C : CX g x cc RXL fr ce sl lc) {b : Nat} {fs : List Value} (hM : Ct g yXS_delete cXS_delete 4 (some .boolean) lv (.ref b :: As) M Po mc ms) (hb : M b = some (.inr (ci_S, fs))) (hdg : decode cc pc = .ok (.invokevirtual 26, 3)) (hst : st0 = As.reverse ++ .ref b :: rest) (hnA : As.length = 3) (hfr : lv + 1 ≤ fr) (hlc : 8 + (4 + 11) + 40 * lv ≤ lc) (hW : (rest.map fun v => v.category).sum ≤ 8) (hk : k + mc ≤ ce) (hn : n + ms ≤ sl) : RN g x M k n pc L st0 rest Po mc ms := rn_V C hM hb rfl al_255 al_256 al_257 al_20 al_258 ⟨by decide, by decide, by decide +kernel⟩ hnA hst hdg hfr hlc hW hk hn
theorem cl_XL_31 {st0 As : List Value} {Po : Option Value → mp_M → Prop} {lv mc ms : Nat} (C : CX g x cc RXL fr ce sl lc) {b : Nat} {fs : List Value} (hM : Ct g yXS_wipe cXS_wipe 5 (some .boolean) lv (.ref b :: As) M Po mc ms) (hb : M b = some (.inr (ci_S, fs))) (hdg : decode cc pc = .ok (.invokevirtual 31, 3)) (hst : st0 = As.reverse ++ .ref b :: rest) (hnA : As.length = 4) (hfr : lv + 1 ≤ fr) (hlc : 8 + (5 + 11) + 40 * lv ≤ lc) (hW : (rest.map fun v => v.category).sum ≤ 8) (hk : k + mc ≤ ce) (hn : n + ms ≤ sl) : RN g x M k n pc L st0 rest Po mc ms := rn_V C hM hb rfl al_259 al_260 al_261 al_20 al_262 ⟨by decide, by decide, by decide +kernel⟩ hnA hst hdg hfr hlc hW hk hn
theorem cl_XS_75 {st0 As : List Value} {Po : Option Value → mp_M → Prop} {lv mc ms : Nat} (C : CX g x cc RXS fr ce sl lc) (hM : Ct g yXS_wipeSlot cXS_wipeSlot 3 (some .int) lv As M Po mc ms) (hdg : decode cc pc = .ok (.invokestatic 75, 3)) (hst : st0 = As.reverse ++ rest) (hnA : As.length = 3) (hfr : lv + 1 ≤ fr) (hlc : 8 + (3 + 11) + 40 * lv ≤ lc) (hW : (rest.map fun v => v.category).sum ≤ 8) (hk : k + mc ≤ ce) (hn : n + ms ≤ sl) : RN g x M k n pc L st0 rest Po mc ms := rn_S C hM al_263 al_238 al_20 al_239 ⟨by decide, by decide, by decide +kernel⟩ hnA hst hdg hfr hlc hW hk hn
theorem cl_XL_36 {st0 As : List Value} {Po : Option Value → mp_M → Prop} {lv mc ms : Nat} (C : CX g x cc RXL fr ce sl lc) {b : Nat} {fs : List Value} (hM : Ct g yXS_get cXS_get 4 (some .int) lv (.ref b :: As) M Po mc ms) (hb : M b = some (.inr (ci_S, fs))) (hdg : decode cc pc = .ok (.invokevirtual 36, 3)) (hst : st0 = As.reverse ++ .ref b :: rest) (hnA : As.length = 2) (hfr : lv + 1 ≤ fr) (hlc : 8 + (4 + 11) + 40 * lv ≤ lc) (hW : (rest.map fun v => v.category).sum ≤ 8) (hk : k + mc ≤ ce) (hn : n + ms ≤ sl) : RN g x M k n pc L st0 rest Po mc ms := rn_V C hM hb rfl al_264 al_265 al_266 al_20 al_267 ⟨by decide, by decide, by decide +kernel⟩ hnA hst hdg hfr hlc hW hk hn
theorem cl_XS_79 {st0 As : List Value} {Po : Option Value → mp_M → Prop} {lv mc ms : Nat} (C : CX g x cc RXS fr ce sl lc) {b : Nat} {fs : List Value} (hM : Ct g yXS_seenCell cXS_seenCell 4 (some (.object "WideStore$Entry")) lv (.ref b :: As) M Po mc ms) (hb : M b = some (.inr (ci_S, fs))) (hdg : decode cc pc = .ok (.invokevirtual 79, 3)) (hst : st0 = As.reverse ++ .ref b :: rest) (hnA : As.length = 2) (hfr : lv + 1 ≤ fr) (hlc : 8 + (4 + 11) + 40 * lv ≤ lc) (hW : (rest.map fun v => v.category).sum ≤ 8) (hk : k + mc ≤ ce) (hn : n + ms ≤ sl) : RN g x M k n pc L st0 rest Po mc ms := rn_V C hM hb rfl al_268 al_269 al_9 al_20 al_270 ⟨by decide, by decide, by decide +kernel⟩ hnA hst hdg hfr hlc hW hk hn
theorem cl_XS_150 {st0 As : List Value} {Po : Option Value → mp_M → Prop} {lv mc ms : Nat} (C : CX g x cc RXS fr ce sl lc) {b : Nat} {fs : List Value} (hM : Ct g yXS_winningPoint cXS_winningPoint 6 (some (.object "WideStore$Entry")) lv (.ref b :: As) M Po mc ms) (hb : M b = some (.inr (ci_S, fs))) (hdg : decode cc pc = .ok (.invokevirtual 150, 3)) (hst : st0 = As.reverse ++ .ref b :: rest) (hnA : As.length = 2) (hfr : lv + 1 ≤ fr) (hlc : 8 + (6 + 11) + 40 * lv ≤ lc) (hW : (rest.map fun v => v.category).sum ≤ 8) (hk : k + mc ≤ ce) (hn : n + ms ≤ sl) : RN g x M k n pc L st0 rest Po mc ms := rn_V C hM hb rfl al_271 al_272 al_10 al_20 al_273 ⟨by decide, by decide, by decide +kernel⟩ hnA hst hdg hfr hlc hW hk hn
theorem cl_XS_163 {st0 As : List Value} {Po : Option Value → mp_M → Prop} {lv mc ms : Nat} (C : CX g x cc RXS fr ce sl lc) {b : Nat} {fs : List Value} (hM : Ct g yXT_pointAt cXT_pointAt 3 (some (.object "WideStore$Entry")) lv (.ref b :: As) M Po mc ms) (hb : M b = some (.inr (ci_T, fs))) (hdg : decode cc pc = .ok (.invokevirtual 163, 3)) (hst : st0 = As.reverse ++ .ref b :: rest) (hnA : As.length = 2) (hfr : lv + 1 ≤ fr) (hlc : 8 + (3 + 11) + 40 * lv ≤ lc) (hW : (rest.map fun v => v.category).sum ≤ 8) (hk : k + mc ≤ ce) (hn : n + ms ≤ sl) : RN g x M k n pc L st0 rest Po mc ms := rn_V C hM hb rfl al_274 al_231 al_232 al_25 al_233 ⟨by decide, by decide, by decide +kernel⟩ hnA hst hdg hfr hlc hW hk hn
theorem cl_XS_166 {st0 As : List Value} {Po : Option Value → mp_M → Prop} {lv mc ms : Nat} (C : CX g x cc RXS fr ce sl lc) {b : Nat} {fs : List Value} (hM : Ct g yXE_winsOver cXE_winsOver 2 (some .boolean) lv (.ref b :: As) M Po mc ms) (hb : M b = some (.inr (ci_E, fs))) (hdg : decode cc pc = .ok (.invokevirtual 166, 3)) (hst : st0 = As.reverse ++ .ref b :: rest) (hnA : As.length = 1) (hfr : lv + 1 ≤ fr) (hlc : 8 + (2 + 11) + 40 * lv ≤ lc) (hW : (rest.map fun v => v.category).sum ≤ 8) (hk : k + mc ≤ ce) (hn : n + ms ≤ sl) : RN g x M k n pc L st0 rest Po mc ms := rn_V C hM hb rfl al_275 al_148 al_149 al_27 al_150 ⟨by decide, by decide, by decide +kernel⟩ hnA hst hdg hfr hlc hW hk hn
theorem cl_XS_159 {st0 As : List Value} {Po : Option Value → mp_M → Prop} {lv mc ms : Nat} (C : CX g x cc RXS fr ce sl lc) {b : Nat} {fs : List Value} (hM : Ct g yXS_isCovered cXS_isCovered 5 (some .boolean) lv (.ref b :: As) M Po mc ms) (hb : M b = some (.inr (ci_S, fs))) (hdg : decode cc pc = .ok (.invokevirtual 159, 3)) (hst : st0 = As.reverse ++ .ref b :: rest) (hnA : As.length = 3) (hfr : lv + 1 ≤ fr) (hlc : 8 + (5 + 11) + 40 * lv ≤ lc) (hW : (rest.map fun v => v.category).sum ≤ 8) (hk : k + mc ≤ ce) (hn : n + ms ≤ sl) : RN g x M k n pc L st0 rest Po mc ms := rn_V C hM hb rfl al_276 al_277 al_11 al_20 al_278 ⟨by decide, by decide, by decide +kernel⟩ hnA hst hdg hfr hlc hW hk hn
theorem cl_XS_169 {st0 As : List Value} {Po : Option Value → mp_M → Prop} {lv mc ms : Nat} (C : CX g x cc RXS fr ce sl lc) {b : Nat} {fs : List Value} (hM : Ct g yXT_covers cXT_covers 7 (some .boolean) lv (.ref b :: As) M Po mc ms) (hb : M b = some (.inr (ci_T, fs))) (hdg : decode cc pc = .ok (.invokevirtual 169, 3)) (hst : st0 = As.reverse ++ .ref b :: rest) (hnA : As.length = 3) (hfr : lv + 1 ≤ fr) (hlc : 8 + (7 + 11) + 40 * lv ≤ lc) (hW : (rest.map fun v => v.category).sum ≤ 8) (hk : k + mc ≤ ce) (hn : n + ms ≤ sl) : RN g x M k n pc L st0 rest Po mc ms := rn_V C hM hb rfl al_279 al_235 al_236 al_25 al_237 ⟨by decide, by decide, by decide +kernel⟩ hnA hst hdg hfr hlc hW hk hn
theorem cl_XL_41 {st0 As : List Value} {Po : Option Value → mp_M → Prop} {lv mc ms : Nat} (C : CX g x cc RXL fr ce sl lc) {b : Nat} {fs : List Value} (hM : Ct g yXS_stamp cXS_stamp 4 (some .int) lv (.ref b :: As) M Po mc ms) (hb : M b = some (.inr (ci_S, fs))) (hdg : decode cc pc = .ok (.invokevirtual 41, 3)) (hst : st0 = As.reverse ++ .ref b :: rest) (hnA : As.length = 2) (hfr : lv + 1 ≤ fr) (hlc : 8 + (4 + 11) + 40 * lv ≤ lc) (hW : (rest.map fun v => v.category).sum ≤ 8) (hk : k + mc ≤ ce) (hn : n + ms ≤ sl) : RN g x M k n pc L st0 rest Po mc ms := rn_V C hM hb rfl al_280 al_281 al_282 al_20 al_283 ⟨by decide, by decide, by decide +kernel⟩ hnA hst hdg hfr hlc hW hk hn
theorem cl_XL_45 {st0 As : List Value} {Po : Option Value → mp_M → Prop} {lv mc ms : Nat} (C : CX g x cc RXL fr ce sl lc) {b : Nat} {fs : List Value} (hM : Ct g yXS_next cXS_next 4 (some .int) lv (.ref b :: As) M Po mc ms) (hb : M b = some (.inr (ci_S, fs))) (hdg : decode cc pc = .ok (.invokevirtual 45, 3)) (hst : st0 = As.reverse ++ .ref b :: rest) (hnA : As.length = 2) (hfr : lv + 1 ≤ fr) (hlc : 8 + (4 + 11) + 40 * lv ≤ lc) (hW : (rest.map fun v => v.category).sum ≤ 8) (hk : k + mc ≤ ce) (hn : n + ms ≤ sl) : RN g x M k n pc L st0 rest Po mc ms := rn_V C hM hb rfl al_284 al_285 al_286 al_20 al_287 ⟨by decide, by decide, by decide +kernel⟩ hnA hst hdg hfr hlc hW hk hn
theorem cl_XL_49 {st0 As : List Value} {Po : Option Value → mp_M → Prop} {lv mc ms : Nat} (C : CX g x cc RXL fr ce sl lc) {b : Nat} {fs : List Value} (hM : Ct g yXS_nextRow cXS_nextRow 3 (some .int) lv (.ref b :: As) M Po mc ms) (hb : M b = some (.inr (ci_S, fs))) (hdg : decode cc pc = .ok (.invokevirtual 49, 3)) (hst : st0 = As.reverse ++ .ref b :: rest) (hnA : As.length = 1) (hfr : lv + 1 ≤ fr) (hlc : 8 + (3 + 11) + 40 * lv ≤ lc) (hW : (rest.map fun v => v.category).sum ≤ 8) (hk : k + mc ≤ ce) (hn : n + ms ≤ sl) : RN g x M k n pc L st0 rest Po mc ms := rn_V C hM hb rfl al_288 al_289 al_290 al_20 al_291 ⟨by decide, by decide, by decide +kernel⟩ hnA hst hdg hfr hlc hW hk hn
theorem cl_XS_89 {st0 As : List Value} {Po : Option Value → mp_M → Prop} {lv mc ms : Nat} (C : CX g x cc RXS fr ce sl lc) {b : Nat} {fs : List Value} (hM : Ct g yXS_next cXS_next 4 (some .int) lv (.ref b :: As) M Po mc ms) (hb : M b = some (.inr (ci_S, fs))) (hdg : decode cc pc = .ok (.invokevirtual 89, 3)) (hst : st0 = As.reverse ++ .ref b :: rest) (hnA : As.length = 2) (hfr : lv + 1 ≤ fr) (hlc : 8 + (4 + 11) + 40 * lv ≤ lc) (hW : (rest.map fun v => v.category).sum ≤ 8) (hk : k + mc ≤ ce) (hn : n + ms ≤ sl) : RN g x M k n pc L st0 rest Po mc ms := rn_V C hM hb rfl al_292 al_285 al_286 al_20 al_287 ⟨by decide, by decide, by decide +kernel⟩ hnA hst hdg hfr hlc hW hk hn
theorem cl_XL_54 {st0 As : List Value} {Po : Option Value → mp_M → Prop} {lv mc ms : Nat} (C : CX g x cc RXL fr ce sl lc) {b : Nat} {fs : List Value} (hM : Ct g yXS_flush cXS_flush 2 (some .int) lv (.ref b :: As) M Po mc ms) (hb : M b = some (.inr (ci_S, fs))) (hdg : decode cc pc = .ok (.invokevirtual 54, 3)) (hst : st0 = As.reverse ++ .ref b :: rest) (hnA : As.length = 0) (hfr : lv + 1 ≤ fr) (hlc : 8 + (2 + 11) + 40 * lv ≤ lc) (hW : (rest.map fun v => v.category).sum ≤ 8) (hk : k + mc ≤ ce) (hn : n + ms ≤ sl) : RN g x M k n pc L st0 rest Po mc ms := rn_V C hM hb rfl al_293 al_294 al_295 al_20 al_296 ⟨by decide, by decide, by decide +kernel⟩ hnA hst hdg hfr hlc hW hk hn
theorem cl_XL_59 {st0 As : List Value} {Po : Option Value → mp_M → Prop} {lv mc ms : Nat} (C : CX g x cc RXL fr ce sl lc) {b : Nat} {fs : List Value} (hM : Ct g yXS_merge cXS_merge 1 (some .int) lv (.ref b :: As) M Po mc ms) (hb : M b = some (.inr (ci_S, fs))) (hdg : decode cc pc = .ok (.invokevirtual 59, 3)) (hst : st0 = As.reverse ++ .ref b :: rest) (hnA : As.length = 0) (hfr : lv + 1 ≤ fr) (hlc : 8 + (1 + 11) + 40 * lv ≤ lc) (hW : (rest.map fun v => v.category).sum ≤ 8) (hk : k + mc ≤ ce) (hn : n + ms ≤ sl) : RN g x M k n pc L st0 rest Po mc ms := rn_V C hM hb rfl al_297 al_298 al_299 al_20 al_300 ⟨by decide, by decide, by decide +kernel⟩ hnA hst hdg hfr hlc hW hk hn
theorem cl_XS_98 {st0 As : List Value} {Po : Option Value → mp_M → Prop} {lv mc ms : Nat} (C : CX g x cc RXS fr ce sl lc) {b : Nat} {fs : List Value} (hM : Ct g yXA_isEmpty cXA_isEmpty 1 (some .boolean) lv (.ref b :: As) M Po mc ms) (hb : M b = some (.inr (ci_A, fs))) (hdg : decode cc pc = .ok (.invokevirtual 98, 3)) (hst : st0 = As.reverse ++ .ref b :: rest) (hnA : As.length = 0) (hfr : lv + 1 ≤ fr) (hlc : 8 + (1 + 11) + 40 * lv ≤ lc) (hW : (rest.map fun v => v.category).sum ≤ 8) (hk : k + mc ≤ ce) (hn : n + ms ≤ sl) : RN g x M k n pc L st0 rest Po mc ms := rn_V C hM hb rfl al_301 al_302 al_303 al_24 al_304 ⟨by decide, by decide, by decide +kernel⟩ hnA hst hdg hfr hlc hW hk hn
theorem cl_XS_102 {st0 As : List Value} {Po : Option Value → mp_M → Prop} {lv mc ms : Nat} (C : CX g x cc RXS fr ce sl lc) {b : Nat} {fs : List Value} (hM : Ct g yXS_greatestTier cXS_greatestTier 3 (some .int) lv (.ref b :: As) M Po mc ms) (hb : M b = some (.inr (ci_S, fs))) (hdg : decode cc pc = .ok (.invokevirtual 102, 3)) (hst : st0 = As.reverse ++ .ref b :: rest) (hnA : As.length = 0) (hfr : lv + 1 ≤ fr) (hlc : 8 + (3 + 11) + 40 * lv ≤ lc) (hW : (rest.map fun v => v.category).sum ≤ 8) (hk : k + mc ≤ ce) (hn : n + ms ≤ sl) : RN g x M k n pc L st0 rest Po mc ms := rn_V C hM hb rfl al_305 al_306 al_12 al_20 al_307 ⟨by decide, by decide, by decide +kernel⟩ hnA hst hdg hfr hlc hW hk hn
theorem cl_XL_63 {st0 As : List Value} {Po : Option Value → mp_M → Prop} {lv mc ms : Nat} (C : CX g x cc RXL fr ce sl lc) {b : Nat} {fs : List Value} (hM : Ct g yXS_sync cXS_sync 1 (some .int) lv (.ref b :: As) M Po mc ms) (hb : M b = some (.inr (ci_S, fs))) (hdg : decode cc pc = .ok (.invokevirtual 63, 3)) (hst : st0 = As.reverse ++ .ref b :: rest) (hnA : As.length = 0) (hfr : lv + 1 ≤ fr) (hlc : 8 + (1 + 11) + 40 * lv ≤ lc) (hW : (rest.map fun v => v.category).sum ≤ 8) (hk : k + mc ≤ ce) (hn : n + ms ≤ sl) : RN g x M k n pc L st0 rest Po mc ms := rn_V C hM hb rfl al_308 al_309 al_310 al_20 al_311 ⟨by decide, by decide, by decide +kernel⟩ hnA hst hdg hfr hlc hW hk hn
theorem cl_XL_67 {st0 As : List Value} {Po : Option Value → mp_M → Prop} {lv mc ms : Nat} (C : CX g x cc RXL fr ce sl lc) {b : Nat} {fs : List Value} (hM : Ct g yXS_crash cXS_crash 2 (some .int) lv (.ref b :: As) M Po mc ms) (hb : M b = some (.inr (ci_S, fs))) (hdg : decode cc pc = .ok (.invokevirtual 67, 3)) (hst : st0 = As.reverse ++ .ref b :: rest) (hnA : As.length = 0) (hfr : lv + 1 ≤ fr) (hlc : 8 + (2 + 11) + 40 * lv ≤ lc) (hW : (rest.map fun v => v.category).sum ≤ 8) (hk : k + mc ≤ ce) (hn : n + ms ≤ sl) : RN g x M k n pc L st0 rest Po mc ms := rn_V C hM hb rfl al_312 al_313 al_314 al_20 al_315 ⟨by decide, by decide, by decide +kernel⟩ hnA hst hdg hfr hlc hW hk hn
theorem cl_XS_110 {st0 As : List Value} {Po : Option Value → mp_M → Prop} {lv mc ms : Nat} (C : CX g x cc RXS fr ce sl lc) {b : Nat} {fs : List Value} (hM : Ct g yXT_clearSlots cXT_clearSlots 2 none lv (.ref b :: As) M Po mc ms) (hb : M b = some (.inr (ci_T, fs))) (hdg : decode cc pc = .ok (.invokevirtual 110, 3)) (hst : st0 = As.reverse ++ .ref b :: rest) (hnA : As.length = 0) (hfr : lv + 1 ≤ fr) (hlc : 8 + (2 + 11) + 40 * lv ≤ lc) (hW : (rest.map fun v => v.category).sum ≤ 8) (hk : k + mc ≤ ce) (hn : n + ms ≤ sl) : RN g x M k n pc L st0 rest Po mc ms := rn_V C hM hb rfl al_316 al_317 al_318 al_25 al_319 ⟨by decide, by decide, by decide +kernel⟩ hnA hst hdg hfr hlc hW hk hn
theorem cl_XL_71 {st0 As : List Value} {Po : Option Value → mp_M → Prop} {lv mc ms : Nat} (C : CX g x cc RXL fr ce sl lc) {b : Nat} {fs : List Value} (hM : Ct g yXS_tick cXS_tick 2 (some .int) lv (.ref b :: As) M Po mc ms) (hb : M b = some (.inr (ci_S, fs))) (hdg : decode cc pc = .ok (.invokevirtual 71, 3)) (hst : st0 = As.reverse ++ .ref b :: rest) (hnA : As.length = 1) (hfr : lv + 1 ≤ fr) (hlc : 8 + (2 + 11) + 40 * lv ≤ lc) (hW : (rest.map fun v => v.category).sum ≤ 8) (hk : k + mc ≤ ce) (hn : n + ms ≤ sl) : RN g x M k n pc L st0 rest Po mc ms := rn_V C hM hb rfl al_320 al_321 al_322 al_20 al_323 ⟨by decide, by decide, by decide +kernel⟩ hnA hst hdg hfr hlc hW hk hn
theorem cl_XL_75 {st0 As : List Value} {Po : Option Value → mp_M → Prop} {lv mc ms : Nat} (C : CX g x cc RXL fr ce sl lc) {b : Nat} {fs : List Value} (hM : Ct g yXS_count cXS_count 2 (some .int) lv (.ref b :: As) M Po mc ms) (hb : M b = some (.inr (ci_S, fs))) (hdg : decode cc pc = .ok (.invokevirtual 75, 3)) (hst : st0 = As.reverse ++ .ref b :: rest) (hnA : As.length = 1) (hfr : lv + 1 ≤ fr) (hlc : 8 + (2 + 11) + 40 * lv ≤ lc) (hW : (rest.map fun v => v.category).sum ≤ 8) (hk : k + mc ≤ ce) (hn : n + ms ≤ sl) : RN g x M k n pc L st0 rest Po mc ms := rn_V C hM hb rfl al_324 al_325 al_326 al_20 al_327 ⟨by decide, by decide, by decide +kernel⟩ hnA hst hdg hfr hlc hW hk hn
theorem cl_XL_79 {st0 As : List Value} {Po : Option Value → mp_M → Prop} {lv mc ms : Nat} (C : CX g x cc RXL fr ce sl lc) {b : Nat} {fs : List Value} (hM : Ct g yXS_run cXS_run 4 (some .int) lv (.ref b :: As) M Po mc ms) (hb : M b = some (.inr (ci_S, fs))) (hdg : decode cc pc = .ok (.invokevirtual 79, 3)) (hst : st0 = As.reverse ++ .ref b :: rest) (hnA : As.length = 2) (hfr : lv + 1 ≤ fr) (hlc : 8 + (4 + 11) + 40 * lv ≤ lc) (hW : (rest.map fun v => v.category).sum ≤ 8) (hk : k + mc ≤ ce) (hn : n + ms ≤ sl) : RN g x M k n pc L st0 rest Po mc ms := rn_V C hM hb rfl al_328 al_329 al_330 al_20 al_331 ⟨by decide, by decide, by decide +kernel⟩ hnA hst hdg hfr hlc hW hk hn
theorem cl_XL_9 {st0 As : List Value} {Po : Option Value → mp_M → Prop} {lv mc ms : Nat} (C : CX g x cc RXL fr ce sl lc) (hM : Ct g yXL_cell cXL_cell 2 (some .int) lv As M Po mc ms) (hdg : decode cc pc = .ok (.invokestatic 9, 3)) (hst : st0 = As.reverse ++ rest) (hnA : As.length = 2) (hfr : lv + 1 ≤ fr) (hlc : 8 + (2 + 11) + 40 * lv ≤ lc) (hW : (rest.map fun v => v.category).sum ≤ 8) (hk : k + mc ≤ ce) (hn : n + ms ≤ sl) : RN g x M k n pc L st0 rest Po mc ms := rn_S C hM al_332 al_333 al_19 al_334 ⟨by decide, by decide, by decide +kernel⟩ hnA hst hdg hfr hlc hW hk hn
theorem nw_XL_18 (C : CX g x cc RXL fr ce sl lc) (q : Nat) (hd : decode cc pc = .ok (.new 18, 3)) (hq : pc + 3 = q) (hcells : k + 1 ≤ ce) (hslots : n + 16 ≤ sl) (kk : ∀ a : Nat, M a = none → VV g x (mp_u M a (.inr (ci_M, [.int 0, .int 0, .int 0, .int 0, .null, .int 0, .int 0, .null, .int 0, .null, .null, .int 0, .int 0, .null, .null, .null]))) (k + 1) (n + 16) q L (.ref a :: rest)) : VV g x M k n pc L rest := v_new C q hinM tyXM tyXM_ok rfl al_335 al_336 al_26 (by intro j hj; rcases (show j = 0 ∨ j = 1 ∨ j = 2 ∨ j = 3 ∨ j = 4 ∨ j = 5 ∨ j = 6 ∨ j = 7 ∨ j = 8 ∨ j = 9 ∨ j = 10 ∨ j = 11 ∨ j = 12 ∨ j = 13 ∨ j = 14 ∨ j = 15 by omega) with rfl | rfl | rfl | rfl | rfl | rfl | rfl | rfl | rfl | rfl | rfl | rfl | rfl | rfl | rfl | rfl <;> rfl) hd hq hcells hslots kk
theorem cl_XL_20 {st0 As : List Value} {Po : Option Value → mp_M → Prop} {lv mc ms : Nat} (C : CX g x cc RXL fr ce sl lc) {b : Nat} (hM : Ct g yXM_init cXM_init 3 none lv (.ref b :: As) M Po mc ms) (hdg : decode cc pc = .ok (.invokespecial 20, 3)) (hst : st0 = As.reverse ++ .ref b :: rest) (hnA : As.length = 2) (hfr : lv + 1 ≤ fr) (hlc : 8 + (3 + 11) + 40 * lv ≤ lc) (hW : (rest.map fun v => v.category).sum ≤ 8) (hk : k + mc ≤ ce) (hn : n + ms ≤ sl) : RN g x M k n pc L st0 rest Po mc ms := rn_I C hM rfl al_337 al_338 al_26 al_339 ⟨by decide, by decide, by decide +kernel⟩ hnA hst hdg hfr hlc hW hk hn
theorem oi_XM_1 (C : CX g x cc RXM fr ce sl lc) (q : Nat) {a : Nat} (hd : decode cc pc = .ok (.invokespecial 1, 3)) (hq : pc + 3 = q) (hfr : 1 ≤ fr) (hlo : (rest.map fun v => v.category).sum + 12 ≤ lc) (kk : VV g x M k n q L rest) : VV g x M k n pc L (.ref a :: rest) := v_objInit C q al_340 al_39 al_40 hd hq hfr hlo kk
theorem gt_XM_31 (C : CX g x cc RXM fr ce sl lc) (q : Nat) {a : Nat} {fs : List Value} {v : Value} (hd : decode cc pc = .ok (.getfield 31, 3)) (hq : pc + 3 = q) (hM : M a = some (.inr (ci_M, fs))) (hv : fs[0]? = some v) (kk : VV g x M k n q L (v :: rest)) : VV g x M k n pc L (.ref a :: rest) := v_get C q hinM rfl 0 (by decide) al_341 (Or.inl rfl) hd hq hM hv kk
theorem pt_XM_31 (C : CX g x cc RXM fr ce sl lc) (I : IX x) (q : Nat) {a : Nat} {fs : List Value} {v : Value} (hd : decode cc pc = .ok (.putfield 31, 3)) (hq : pc + 3 = q) (hn : narrow .int v = v) (hfit : fits .int v = true) (hM : M a = some (.inr (ci_M, fs))) (hl2 : 0 < fs.length) (fs2 : List Value) (hfs : fs.set 0 v = fs2) (kk : VV g x (mp_u M a (.inr (ci_M, fs2))) k n q L rest) : VV g x M k n pc L (v :: .ref a :: rest) := v_putF C I q hinM tyXM tyXM_ok nmXM rfl 0 (by decide) al_341 (Or.inl rfl) rfl rfl (by decide +kernel) hd hq hn hfit hM hl2 fs2 hfs kk
theorem gt_XM_35 (C : CX g x cc RXM fr ce sl lc) (q : Nat) {a : Nat} {fs : List Value} {v : Value} (hd : decode cc pc = .ok (.getfield 35, 3)) (hq : pc + 3 = q) (hM : M a = some (.inr (ci_M, fs))) (hv : fs[1]? = some v) (kk : VV g x M k n q L (v :: rest)) : VV g x M k n pc L (.ref a :: rest) := v_get C q hinM rfl 1 (by decide) al_342 (Or.inl rfl) hd hq hM hv kk
theorem pt_XM_35 (C : CX g x cc RXM fr ce sl lc) (I : IX x) (q : Nat) {a : Nat} {fs : List Value} {v : Value} (hd : decode cc pc = .ok (.putfield 35, 3)) (hq : pc + 3 = q) (hn : narrow .int v = v) (hfit : fits .int v = true) (hM : M a = some (.inr (ci_M, fs))) (hl2 : 1 < fs.length) (fs2 : List Value) (hfs : fs.set 1 v = fs2) (kk : VV g x (mp_u M a (.inr (ci_M, fs2))) k n q L rest) : VV g x M k n pc L (v :: .ref a :: rest) := v_putF C I q hinM tyXM tyXM_ok nmXM rfl 1 (by decide) al_342 (Or.inl rfl) rfl rfl (by decide +kernel) hd hq hn hfit hM hl2 fs2 hfs kk
theorem gt_XM_75 (C : CX g x cc RXM fr ce sl lc) (q : Nat) {a : Nat} {fs : List Value} {v : Value} (hd : decode cc pc = .ok (.getfield 75, 3)) (hq : pc + 3 = q) (hM : M a = some (.inr (ci_M, fs))) (hv : fs[2]? = some v) (kk : VV g x M k n q L (v :: rest)) : VV g x M k n pc L (.ref a :: rest) := v_get C q hinM rfl 2 (by decide) al_343 (Or.inl rfl) hd hq hM hv kk
theorem pt_XM_75 (C : CX g x cc RXM fr ce sl lc) (q : Nat) {a : Nat} {fs : List Value} {v : Value} (hd : decode cc pc = .ok (.putfield 75, 3)) (hq : pc + 3 = q) (hn : narrow .int v = v) (hfit : fits .int v = true) (hM : M a = some (.inr (ci_M, fs))) (hl2 : 2 < fs.length) (fs2 : List Value) (hfs : fs.set 2 v = fs2) (kk : VV g x (mp_u M a (.inr (ci_M, fs2))) k n q L rest) : VV g x M k n pc L (v :: .ref a :: rest) := v_put C q hinM tyXM tyXM_ok nmXM rfl 2 (by decide) al_343 (Or.inl rfl) rfl (by decide +kernel) hd hq hn hfit hM hl2 fs2 hfs kk
theorem gt_XM_42 (C : CX g x cc RXM fr ce sl lc) (q : Nat) {a : Nat} {fs : List Value} {v : Value} (hd : decode cc pc = .ok (.getfield 42, 3)) (hq : pc + 3 = q) (hM : M a = some (.inr (ci_M, fs))) (hv : fs[3]? = some v) (kk : VV g x M k n q L (v :: rest)) : VV g x M k n pc L (.ref a :: rest) := v_get C q hinM rfl 3 (by decide) al_344 (Or.inl rfl) hd hq hM hv kk
theorem pt_XM_42 (C : CX g x cc RXM fr ce sl lc) (q : Nat) {a : Nat} {fs : List Value} {v : Value} (hd : decode cc pc = .ok (.putfield 42, 3)) (hq : pc + 3 = q) (hn : narrow .int v = v) (hfit : fits .int v = true) (hM : M a = some (.inr (ci_M, fs))) (hl2 : 3 < fs.length) (fs2 : List Value) (hfs : fs.set 3 v = fs2) (kk : VV g x (mp_u M a (.inr (ci_M, fs2))) k n q L rest) : VV g x M k n pc L (v :: .ref a :: rest) := v_put C q hinM tyXM tyXM_ok nmXM rfl 3 (by decide) al_344 (Or.inl rfl) rfl (by decide +kernel) hd hq hn hfit hM hl2 fs2 hfs kk
theorem gt_XM_7 (C : CX g x cc RXM fr ce sl lc) (q : Nat) {a : Nat} {fs : List Value} {v : Value} (hd : decode cc pc = .ok (.getfield 7, 3)) (hq : pc + 3 = q) (hM : M a = some (.inr (ci_M, fs))) (hv : fs[4]? = some v) (kk : VV g x M k n q L (v :: rest)) : VV g x M k n pc L (.ref a :: rest) := v_get C q hinM rfl 4 (by decide) al_345 (Or.inl rfl) hd hq hM hv kk
theorem pt_XM_7 (C : CX g x cc RXM fr ce sl lc) (I : IX x) (q : Nat) {a : Nat} {fs : List Value} {v : Value} (hd : decode cc pc = .ok (.putfield 7, 3)) (hq : pc + 3 = q) (hn : narrow (.array .int) v = v) (hfit : fits (.array .int) v = true) (hM : M a = some (.inr (ci_M, fs))) (hl2 : 4 < fs.length) (fs2 : List Value) (hfs : fs.set 4 v = fs2) (kk : VV g x (mp_u M a (.inr (ci_M, fs2))) k n q L rest) : VV g x M k n pc L (v :: .ref a :: rest) := v_putF C I q hinM tyXM tyXM_ok nmXM rfl 4 (by decide) al_345 (Or.inl rfl) rfl rfl (by decide +kernel) hd hq hn hfit hM hl2 fs2 hfs kk
theorem gt_XM_56 (C : CX g x cc RXM fr ce sl lc) (q : Nat) {a : Nat} {fs : List Value} {v : Value} (hd : decode cc pc = .ok (.getfield 56, 3)) (hq : pc + 3 = q) (hM : M a = some (.inr (ci_M, fs))) (hv : fs[5]? = some v) (kk : VV g x M k n q L (v :: rest)) : VV g x M k n pc L (.ref a :: rest) := v_get C q hinM rfl 5 (by decide) al_346 (Or.inl rfl) hd hq hM hv kk
theorem pt_XM_56 (C : CX g x cc RXM fr ce sl lc) (q : Nat) {a : Nat} {fs : List Value} {v : Value} (hd : decode cc pc = .ok (.putfield 56, 3)) (hq : pc + 3 = q) (hn : narrow .int v = v) (hfit : fits .int v = true) (hM : M a = some (.inr (ci_M, fs))) (hl2 : 5 < fs.length) (fs2 : List Value) (hfs : fs.set 5 v = fs2) (kk : VV g x (mp_u M a (.inr (ci_M, fs2))) k n q L rest) : VV g x M k n pc L (v :: .ref a :: rest) := v_put C q hinM tyXM tyXM_ok nmXM rfl 5 (by decide) al_346 (Or.inl rfl) rfl (by decide +kernel) hd hq hn hfit hM hl2 fs2 hfs kk
theorem gt_XM_91 (C : CX g x cc RXM fr ce sl lc) (q : Nat) {a : Nat} {fs : List Value} {v : Value} (hd : decode cc pc = .ok (.getfield 91, 3)) (hq : pc + 3 = q) (hM : M a = some (.inr (ci_M, fs))) (hv : fs[6]? = some v) (kk : VV g x M k n q L (v :: rest)) : VV g x M k n pc L (.ref a :: rest) := v_get C q hinM rfl 6 (by decide) al_347 (Or.inl rfl) hd hq hM hv kk
theorem pt_XM_91 (C : CX g x cc RXM fr ce sl lc) (q : Nat) {a : Nat} {fs : List Value} {v : Value} (hd : decode cc pc = .ok (.putfield 91, 3)) (hq : pc + 3 = q) (hn : narrow .int v = v) (hfit : fits .int v = true) (hM : M a = some (.inr (ci_M, fs))) (hl2 : 6 < fs.length) (fs2 : List Value) (hfs : fs.set 6 v = fs2) (kk : VV g x (mp_u M a (.inr (ci_M, fs2))) k n q L rest) : VV g x M k n pc L (v :: .ref a :: rest) := v_put C q hinM tyXM tyXM_ok nmXM rfl 6 (by decide) al_347 (Or.inl rfl) rfl (by decide +kernel) hd hq hn hfit hM hl2 fs2 hfs kk
theorem gt_XM_13 (C : CX g x cc RXM fr ce sl lc) (q : Nat) {a : Nat} {fs : List Value} {v : Value} (hd : decode cc pc = .ok (.getfield 13, 3)) (hq : pc + 3 = q) (hM : M a = some (.inr (ci_M, fs))) (hv : fs[7]? = some v) (kk : VV g x M k n q L (v :: rest)) : VV g x M k n pc L (.ref a :: rest) := v_get C q hinM rfl 7 (by decide) al_348 (Or.inl rfl) hd hq hM hv kk
theorem pt_XM_13 (C : CX g x cc RXM fr ce sl lc) (I : IX x) (q : Nat) {a : Nat} {fs : List Value} {v : Value} (hd : decode cc pc = .ok (.putfield 13, 3)) (hq : pc + 3 = q) (hn : narrow (.array .int) v = v) (hfit : fits (.array .int) v = true) (hM : M a = some (.inr (ci_M, fs))) (hl2 : 7 < fs.length) (fs2 : List Value) (hfs : fs.set 7 v = fs2) (kk : VV g x (mp_u M a (.inr (ci_M, fs2))) k n q L rest) : VV g x M k n pc L (v :: .ref a :: rest) := v_putF C I q hinM tyXM tyXM_ok nmXM rfl 7 (by decide) al_348 (Or.inl rfl) rfl rfl (by decide +kernel) hd hq hn hfit hM hl2 fs2 hfs kk
theorem gt_XM_85 (C : CX g x cc RXM fr ce sl lc) (q : Nat) {a : Nat} {fs : List Value} {v : Value} (hd : decode cc pc = .ok (.getfield 85, 3)) (hq : pc + 3 = q) (hM : M a = some (.inr (ci_M, fs))) (hv : fs[8]? = some v) (kk : VV g x M k n q L (v :: rest)) : VV g x M k n pc L (.ref a :: rest) := v_get C q hinM rfl 8 (by decide) al_349 (Or.inl rfl) hd hq hM hv kk
theorem pt_XM_85 (C : CX g x cc RXM fr ce sl lc) (q : Nat) {a : Nat} {fs : List Value} {v : Value} (hd : decode cc pc = .ok (.putfield 85, 3)) (hq : pc + 3 = q) (hn : narrow .int v = v) (hfit : fits .int v = true) (hM : M a = some (.inr (ci_M, fs))) (hl2 : 8 < fs.length) (fs2 : List Value) (hfs : fs.set 8 v = fs2) (kk : VV g x (mp_u M a (.inr (ci_M, fs2))) k n q L rest) : VV g x M k n pc L (v :: .ref a :: rest) := v_put C q hinM tyXM tyXM_ok nmXM rfl 8 (by decide) al_349 (Or.inl rfl) rfl (by decide +kernel) hd hq hn hfit hM hl2 fs2 hfs kk
theorem gt_XM_16 (C : CX g x cc RXM fr ce sl lc) (q : Nat) {a : Nat} {fs : List Value} {v : Value} (hd : decode cc pc = .ok (.getfield 16, 3)) (hq : pc + 3 = q) (hM : M a = some (.inr (ci_M, fs))) (hv : fs[9]? = some v) (kk : VV g x M k n q L (v :: rest)) : VV g x M k n pc L (.ref a :: rest) := v_get C q hinM rfl 9 (by decide) al_350 (Or.inl rfl) hd hq hM hv kk
theorem pt_XM_16 (C : CX g x cc RXM fr ce sl lc) (I : IX x) (q : Nat) {a : Nat} {fs : List Value} {v : Value} (hd : decode cc pc = .ok (.putfield 16, 3)) (hq : pc + 3 = q) (hn : narrow (.array .int) v = v) (hfit : fits (.array .int) v = true) (hM : M a = some (.inr (ci_M, fs))) (hl2 : 9 < fs.length) (fs2 : List Value) (hfs : fs.set 9 v = fs2) (kk : VV g x (mp_u M a (.inr (ci_M, fs2))) k n q L rest) : VV g x M k n pc L (v :: .ref a :: rest) := v_putF C I q hinM tyXM tyXM_ok nmXM rfl 9 (by decide) al_350 (Or.inl rfl) rfl rfl (by decide +kernel) hd hq hn hfit hM hl2 fs2 hfs kk
theorem gt_XM_19 (C : CX g x cc RXM fr ce sl lc) (q : Nat) {a : Nat} {fs : List Value} {v : Value} (hd : decode cc pc = .ok (.getfield 19, 3)) (hq : pc + 3 = q) (hM : M a = some (.inr (ci_M, fs))) (hv : fs[10]? = some v) (kk : VV g x M k n q L (v :: rest)) : VV g x M k n pc L (.ref a :: rest) := v_get C q hinM rfl 10 (by decide) al_351 (Or.inl rfl) hd hq hM hv kk
theorem pt_XM_19 (C : CX g x cc RXM fr ce sl lc) (I : IX x) (q : Nat) {a : Nat} {fs : List Value} {v : Value} (hd : decode cc pc = .ok (.putfield 19, 3)) (hq : pc + 3 = q) (hn : narrow (.array .int) v = v) (hfit : fits (.array .int) v = true) (hM : M a = some (.inr (ci_M, fs))) (hl2 : 10 < fs.length) (fs2 : List Value) (hfs : fs.set 10 v = fs2) (kk : VV g x (mp_u M a (.inr (ci_M, fs2))) k n q L rest) : VV g x M k n pc L (v :: .ref a :: rest) := v_putF C I q hinM tyXM tyXM_ok nmXM rfl 10 (by decide) al_351 (Or.inl rfl) rfl rfl (by decide +kernel) hd hq hn hfit hM hl2 fs2 hfs kk
theorem gt_XM_88 (C : CX g x cc RXM fr ce sl lc) (q : Nat) {a : Nat} {fs : List Value} {v : Value} (hd : decode cc pc = .ok (.getfield 88, 3)) (hq : pc + 3 = q) (hM : M a = some (.inr (ci_M, fs))) (hv : fs[11]? = some v) (kk : VV g x M k n q L (v :: rest)) : VV g x M k n pc L (.ref a :: rest) := v_get C q hinM rfl 11 (by decide) al_352 (Or.inl rfl) hd hq hM hv kk
theorem pt_XM_88 (C : CX g x cc RXM fr ce sl lc) (q : Nat) {a : Nat} {fs : List Value} {v : Value} (hd : decode cc pc = .ok (.putfield 88, 3)) (hq : pc + 3 = q) (hn : narrow .int v = v) (hfit : fits .int v = true) (hM : M a = some (.inr (ci_M, fs))) (hl2 : 11 < fs.length) (fs2 : List Value) (hfs : fs.set 11 v = fs2) (kk : VV g x (mp_u M a (.inr (ci_M, fs2))) k n q L rest) : VV g x M k n pc L (v :: .ref a :: rest) := v_put C q hinM tyXM tyXM_ok nmXM rfl 11 (by decide) al_352 (Or.inl rfl) rfl (by decide +kernel) hd hq hn hfit hM hl2 fs2 hfs kk
theorem gt_XM_82 (C : CX g x cc RXM fr ce sl lc) (q : Nat) {a : Nat} {fs : List Value} {v : Value} (hd : decode cc pc = .ok (.getfield 82, 3)) (hq : pc + 3 = q) (hM : M a = some (.inr (ci_M, fs))) (hv : fs[12]? = some v) (kk : VV g x M k n q L (v :: rest)) : VV g x M k n pc L (.ref a :: rest) := v_get C q hinM rfl 12 (by decide) al_353 (Or.inl rfl) hd hq hM hv kk
theorem pt_XM_82 (C : CX g x cc RXM fr ce sl lc) (q : Nat) {a : Nat} {fs : List Value} {v : Value} (hd : decode cc pc = .ok (.putfield 82, 3)) (hq : pc + 3 = q) (hn : narrow .int v = v) (hfit : fits .int v = true) (hM : M a = some (.inr (ci_M, fs))) (hl2 : 12 < fs.length) (fs2 : List Value) (hfs : fs.set 12 v = fs2) (kk : VV g x (mp_u M a (.inr (ci_M, fs2))) k n q L rest) : VV g x M k n pc L (v :: .ref a :: rest) := v_put C q hinM tyXM tyXM_ok nmXM rfl 12 (by decide) al_353 (Or.inl rfl) rfl (by decide +kernel) hd hq hn hfit hM hl2 fs2 hfs kk
theorem gt_XM_22 (C : CX g x cc RXM fr ce sl lc) (q : Nat) {a : Nat} {fs : List Value} {v : Value} (hd : decode cc pc = .ok (.getfield 22, 3)) (hq : pc + 3 = q) (hM : M a = some (.inr (ci_M, fs))) (hv : fs[13]? = some v) (kk : VV g x M k n q L (v :: rest)) : VV g x M k n pc L (.ref a :: rest) := v_get C q hinM rfl 13 (by decide) al_354 (Or.inl rfl) hd hq hM hv kk
theorem pt_XM_22 (C : CX g x cc RXM fr ce sl lc) (I : IX x) (q : Nat) {a : Nat} {fs : List Value} {v : Value} (hd : decode cc pc = .ok (.putfield 22, 3)) (hq : pc + 3 = q) (hn : narrow (.array .int) v = v) (hfit : fits (.array .int) v = true) (hM : M a = some (.inr (ci_M, fs))) (hl2 : 13 < fs.length) (fs2 : List Value) (hfs : fs.set 13 v = fs2) (kk : VV g x (mp_u M a (.inr (ci_M, fs2))) k n q L rest) : VV g x M k n pc L (v :: .ref a :: rest) := v_putF C I q hinM tyXM tyXM_ok nmXM rfl 13 (by decide) al_354 (Or.inl rfl) rfl rfl (by decide +kernel) hd hq hn hfit hM hl2 fs2 hfs kk
theorem gt_XM_25 (C : CX g x cc RXM fr ce sl lc) (q : Nat) {a : Nat} {fs : List Value} {v : Value} (hd : decode cc pc = .ok (.getfield 25, 3)) (hq : pc + 3 = q) (hM : M a = some (.inr (ci_M, fs))) (hv : fs[14]? = some v) (kk : VV g x M k n q L (v :: rest)) : VV g x M k n pc L (.ref a :: rest) := v_get C q hinM rfl 14 (by decide) al_355 (Or.inl rfl) hd hq hM hv kk
theorem pt_XM_25 (C : CX g x cc RXM fr ce sl lc) (I : IX x) (q : Nat) {a : Nat} {fs : List Value} {v : Value} (hd : decode cc pc = .ok (.putfield 25, 3)) (hq : pc + 3 = q) (hn : narrow (.array .int) v = v) (hfit : fits (.array .int) v = true) (hM : M a = some (.inr (ci_M, fs))) (hl2 : 14 < fs.length) (fs2 : List Value) (hfs : fs.set 14 v = fs2) (kk : VV g x (mp_u M a (.inr (ci_M, fs2))) k n q L rest) : VV g x M k n pc L (v :: .ref a :: rest) := v_putF C I q hinM tyXM tyXM_ok nmXM rfl 14 (by decide) al_355 (Or.inl rfl) rfl rfl (by decide +kernel) hd hq hn hfit hM hl2 fs2 hfs kk
theorem gt_XM_28 (C : CX g x cc RXM fr ce sl lc) (q : Nat) {a : Nat} {fs : List Value} {v : Value} (hd : decode cc pc = .ok (.getfield 28, 3)) (hq : pc + 3 = q) (hM : M a = some (.inr (ci_M, fs))) (hv : fs[15]? = some v) (kk : VV g x M k n q L (v :: rest)) : VV g x M k n pc L (.ref a :: rest) := v_get C q hinM rfl 15 (by decide) al_356 (Or.inl rfl) hd hq hM hv kk
theorem pt_XM_28 (C : CX g x cc RXM fr ce sl lc) (I : IX x) (q : Nat) {a : Nat} {fs : List Value} {v : Value} (hd : decode cc pc = .ok (.putfield 28, 3)) (hq : pc + 3 = q) (hn : narrow (.array .int) v = v) (hfit : fits (.array .int) v = true) (hM : M a = some (.inr (ci_M, fs))) (hl2 : 15 < fs.length) (fs2 : List Value) (hfs : fs.set 15 v = fs2) (kk : VV g x (mp_u M a (.inr (ci_M, fs2))) k n q L rest) : VV g x M k n pc L (v :: .ref a :: rest) := v_putF C I q hinM tyXM tyXM_ok nmXM rfl 15 (by decide) al_356 (Or.inl rfl) rfl rfl (by decide +kernel) hd hq hn hfit hM hl2 fs2 hfs kk
theorem cl_XL_25 {st0 As : List Value} {Po : Option Value → mp_M → Prop} {lv mc ms : Nat} (C : CX g x cc RXL fr ce sl lc) {b : Nat} {fs : List Value} (hM : Ct g yXM_put cXM_put 6 (some .boolean) lv (.ref b :: As) M Po mc ms) (hb : M b = some (.inr (ci_M, fs))) (hdg : decode cc pc = .ok (.invokevirtual 25, 3)) (hst : st0 = As.reverse ++ .ref b :: rest) (hnA : As.length = 5) (hfr : lv + 1 ≤ fr) (hlc : 8 + (6 + 11) + 40 * lv ≤ lc) (hW : (rest.map fun v => v.category).sum ≤ 8) (hk : k + mc ≤ ce) (hn : n + ms ≤ sl) : RN g x M k n pc L st0 rest Po mc ms := rn_V C hM hb rfl al_374 al_375 al_376 al_26 al_377 ⟨by decide, by decide, by decide +kernel⟩ hnA hst hdg hfr hlc hW hk hn
theorem cl_XM_67 {st0 As : List Value} {Po : Option Value → mp_M → Prop} {lv mc ms : Nat} (C : CX g x cc RXM fr ce sl lc) (hM : Ct g yXM_isPlace cXM_isPlace 2 (some .boolean) lv As M Po mc ms) (hdg : decode cc pc = .ok (.invokestatic 67, 3)) (hst : st0 = As.reverse ++ rest) (hnA : As.length = 2) (hfr : lv + 1 ≤ fr) (hlc : 8 + (2 + 11) + 40 * lv ≤ lc) (hW : (rest.map fun v => v.category).sum ≤ 8) (hk : k + mc ≤ ce) (hn : n + ms ≤ sl) : RN g x M k n pc L st0 rest Po mc ms := rn_S C hM al_378 al_379 al_26 al_380 ⟨by decide, by decide, by decide +kernel⟩ hnA hst hdg hfr hlc hW hk hn
theorem cl_XM_71 {st0 As : List Value} {Po : Option Value → mp_M → Prop} {lv mc ms : Nat} (C : CX g x cc RXM fr ce sl lc) (hM : Ct g yXM_isStamp cXM_isStamp 1 (some .boolean) lv As M Po mc ms) (hdg : decode cc pc = .ok (.invokestatic 71, 3)) (hst : st0 = As.reverse ++ rest) (hnA : As.length = 1) (hfr : lv + 1 ≤ fr) (hlc : 8 + (1 + 11) + 40 * lv ≤ lc) (hW : (rest.map fun v => v.category).sum ≤ 8) (hk : k + mc ≤ ce) (hn : n + ms ≤ sl) : RN g x M k n pc L st0 rest Po mc ms := rn_S C hM al_381 al_382 al_26 al_383 ⟨by decide, by decide, by decide +kernel⟩ hnA hst hdg hfr hlc hW hk hn
theorem cl_XM_78 {st0 As : List Value} {Po : Option Value → mp_M → Prop} {lv mc ms : Nat} (C : CX g x cc RXM fr ce sl lc) {b : Nat} {fs : List Value} (hM : Ct g yXM_add cXM_add 10 (some .boolean) lv (.ref b :: As) M Po mc ms) (hb : M b = some (.inr (ci_M, fs))) (hdg : decode cc pc = .ok (.invokevirtual 78, 3)) (hst : st0 = As.reverse ++ .ref b :: rest) (hnA : As.length = 7) (hfr : lv + 1 ≤ fr) (hlc : 8 + (10 + 11) + 40 * lv ≤ lc) (hW : (rest.map fun v => v.category).sum ≤ 8) (hk : k + mc ≤ ce) (hn : n + ms ≤ sl) : RN g x M k n pc L st0 rest Po mc ms := rn_V C hM hb rfl al_384 al_385 al_13 al_26 al_386 ⟨by decide, by decide, by decide +kernel⟩ hnA hst hdg hfr hlc hW hk hn
theorem cl_XM_59 {st0 As : List Value} {Po : Option Value → mp_M → Prop} {lv mc ms : Nat} (C : CX g x cc RXM fr ce sl lc) {b : Nat} {fs : List Value} (hM : Ct g yXM_remember cXM_remember 3 none lv (.ref b :: As) M Po mc ms) (hb : M b = some (.inr (ci_M, fs))) (hdg : decode cc pc = .ok (.invokevirtual 59, 3)) (hst : st0 = As.reverse ++ .ref b :: rest) (hnA : As.length = 1) (hfr : lv + 1 ≤ fr) (hlc : 8 + (3 + 11) + 40 * lv ≤ lc) (hW : (rest.map fun v => v.category).sum ≤ 8) (hk : k + mc ≤ ce) (hn : n + ms ≤ sl) : RN g x M k n pc L st0 rest Po mc ms := rn_V C hM hb rfl al_387 al_388 al_14 al_26 al_389 ⟨by decide, by decide, by decide +kernel⟩ hnA hst hdg hfr hlc hW hk hn
theorem cl_XM_45 {st0 As : List Value} {Po : Option Value → mp_M → Prop} {lv mc ms : Nat} (C : CX g x cc RXM fr ce sl lc) (hM : Ct g yXM_alike cXM_alike 5 (some .boolean) lv As M Po mc ms) (hdg : decode cc pc = .ok (.invokestatic 45, 3)) (hst : st0 = As.reverse ++ rest) (hnA : As.length = 4) (hfr : lv + 1 ≤ fr) (hlc : 8 + (5 + 11) + 40 * lv ≤ lc) (hW : (rest.map fun v => v.category).sum ≤ 8) (hk : k + mc ≤ ce) (hn : n + ms ≤ sl) : RN g x M k n pc L st0 rest Po mc ms := rn_S C hM al_390 al_391 al_26 al_392 ⟨by decide, by decide, by decide +kernel⟩ hnA hst hdg hfr hlc hW hk hn
theorem cl_XM_38 {st0 As : List Value} {Po : Option Value → mp_M → Prop} {lv mc ms : Nat} (C : CX g x cc RXM fr ce sl lc) (hM : Ct g yXM_point cXM_point 2 (some .boolean) lv As M Po mc ms) (hdg : decode cc pc = .ok (.invokestatic 38, 3)) (hst : st0 = As.reverse ++ rest) (hnA : As.length = 2) (hfr : lv + 1 ≤ fr) (hlc : 8 + (2 + 11) + 40 * lv ≤ lc) (hW : (rest.map fun v => v.category).sum ≤ 8) (hk : k + mc ≤ ce) (hn : n + ms ≤ sl) : RN g x M k n pc L st0 rest Po mc ms := rn_S C hM al_393 al_394 al_26 al_395 ⟨by decide, by decide, by decide +kernel⟩ hnA hst hdg hfr hlc hW hk hn
theorem cl_XM_49 {st0 As : List Value} {Po : Option Value → mp_M → Prop} {lv mc ms : Nat} (C : CX g x cc RXM fr ce sl lc) (hM : Ct g yXM_wins cXM_wins 4 (some .boolean) lv As M Po mc ms) (hdg : decode cc pc = .ok (.invokestatic 49, 3)) (hst : st0 = As.reverse ++ rest) (hnA : As.length = 4) (hfr : lv + 1 ≤ fr) (hlc : 8 + (4 + 11) + 40 * lv ≤ lc) (hW : (rest.map fun v => v.category).sum ≤ 8) (hk : k + mc ≤ ce) (hn : n + ms ≤ sl) : RN g x M k n pc L st0 rest Po mc ms := rn_S C hM al_396 al_397 al_26 al_398 ⟨by decide, by decide, by decide +kernel⟩ hnA hst hdg hfr hlc hW hk hn
theorem cl_XM_52 {st0 As : List Value} {Po : Option Value → mp_M → Prop} {lv mc ms : Nat} (C : CX g x cc RXM fr ce sl lc) (hM : Ct g yXM_copy cXM_copy 5 none lv As M Po mc ms) (hdg : decode cc pc = .ok (.invokestatic 52, 3)) (hst : st0 = As.reverse ++ rest) (hnA : As.length = 4) (hfr : lv + 1 ≤ fr) (hlc : 8 + (5 + 11) + 40 * lv ≤ lc) (hW : (rest.map fun v => v.category).sum ≤ 8) (hk : k + mc ≤ ce) (hn : n + ms ≤ sl) : RN g x M k n pc L st0 rest Po mc ms := rn_S C hM al_399 al_400 al_26 al_401 ⟨by decide, by decide, by decide +kernel⟩ hnA hst hdg hfr hlc hW hk hn
theorem cl_XM_63 {st0 As : List Value} {Po : Option Value → mp_M → Prop} {lv mc ms : Nat} (C : CX g x cc RXM fr ce sl lc) {b : Nat} {fs : List Value} (hM : Ct g yXM_flushAll cXM_flushAll 3 (some .int) lv (.ref b :: As) M Po mc ms) (hb : M b = some (.inr (ci_M, fs))) (hdg : decode cc pc = .ok (.invokevirtual 63, 3)) (hst : st0 = As.reverse ++ .ref b :: rest) (hnA : As.length = 0) (hfr : lv + 1 ≤ fr) (hlc : 8 + (3 + 11) + 40 * lv ≤ lc) (hW : (rest.map fun v => v.category).sum ≤ 8) (hk : k + mc ≤ ce) (hn : n + ms ≤ sl) : RN g x M k n pc L st0 rest Po mc ms := rn_V C hM hb rfl al_402 al_403 al_15 al_26 al_404 ⟨by decide, by decide, by decide +kernel⟩ hnA hst hdg hfr hlc hW hk hn
theorem cl_XM_94 {st0 As : List Value} {Po : Option Value → mp_M → Prop} {lv mc ms : Nat} (C : CX g x cc RXM fr ce sl lc) {b : Nat} {fs : List Value} (hM : Ct g yXM_join cXM_join 8 none lv (.ref b :: As) M Po mc ms) (hb : M b = some (.inr (ci_M, fs))) (hdg : decode cc pc = .ok (.invokevirtual 94, 3)) (hst : st0 = As.reverse ++ .ref b :: rest) (hnA : As.length = 2) (hfr : lv + 1 ≤ fr) (hlc : 8 + (8 + 11) + 40 * lv ≤ lc) (hW : (rest.map fun v => v.category).sum ≤ 8) (hk : k + mc ≤ ce) (hn : n + ms ≤ sl) : RN g x M k n pc L st0 rest Po mc ms := rn_V C hM hb rfl al_405 al_406 al_16 al_26 al_407 ⟨by decide, by decide, by decide +kernel⟩ hnA hst hdg hfr hlc hW hk hn
theorem cl_XM_98 {st0 As : List Value} {Po : Option Value → mp_M → Prop} {lv mc ms : Nat} (C : CX g x cc RXM fr ce sl lc) (hM : Ct g yXM_covers cXM_covers 5 (some .boolean) lv As M Po mc ms) (hdg : decode cc pc = .ok (.invokestatic 98, 3)) (hst : st0 = As.reverse ++ rest) (hnA : As.length = 5) (hfr : lv + 1 ≤ fr) (hlc : 8 + (5 + 11) + 40 * lv ≤ lc) (hW : (rest.map fun v => v.category).sum ≤ 8) (hk : k + mc ≤ ce) (hn : n + ms ≤ sl) : RN g x M k n pc L st0 rest Po mc ms := rn_S C hM al_408 al_409 al_26 al_410 ⟨by decide, by decide, by decide +kernel⟩ hnA hst hdg hfr hlc hW hk hn
theorem cl_XL_30 {st0 As : List Value} {Po : Option Value → mp_M → Prop} {lv mc ms : Nat} (C : CX g x cc RXL fr ce sl lc) {b : Nat} {fs : List Value} (hM : Ct g yXM_delete cXM_delete 4 (some .boolean) lv (.ref b :: As) M Po mc ms) (hb : M b = some (.inr (ci_M, fs))) (hdg : decode cc pc = .ok (.invokevirtual 30, 3)) (hst : st0 = As.reverse ++ .ref b :: rest) (hnA : As.length = 3) (hfr : lv + 1 ≤ fr) (hlc : 8 + (4 + 11) + 40 * lv ≤ lc) (hW : (rest.map fun v => v.category).sum ≤ 8) (hk : k + mc ≤ ce) (hn : n + ms ≤ sl) : RN g x M k n pc L st0 rest Po mc ms := rn_V C hM hb rfl al_411 al_412 al_413 al_26 al_414 ⟨by decide, by decide, by decide +kernel⟩ hnA hst hdg hfr hlc hW hk hn
theorem cl_XL_35 {st0 As : List Value} {Po : Option Value → mp_M → Prop} {lv mc ms : Nat} (C : CX g x cc RXL fr ce sl lc) {b : Nat} {fs : List Value} (hM : Ct g yXM_wipe cXM_wipe 5 (some .boolean) lv (.ref b :: As) M Po mc ms) (hb : M b = some (.inr (ci_M, fs))) (hdg : decode cc pc = .ok (.invokevirtual 35, 3)) (hst : st0 = As.reverse ++ .ref b :: rest) (hnA : As.length = 4) (hfr : lv + 1 ≤ fr) (hlc : 8 + (5 + 11) + 40 * lv ≤ lc) (hW : (rest.map fun v => v.category).sum ≤ 8) (hk : k + mc ≤ ce) (hn : n + ms ≤ sl) : RN g x M k n pc L st0 rest Po mc ms := rn_V C hM hb rfl al_415 al_416 al_417 al_26 al_418 ⟨by decide, by decide, by decide +kernel⟩ hnA hst hdg hfr hlc hW hk hn
theorem cl_XL_58 {st0 As : List Value} {Po : Option Value → mp_M → Prop} {lv mc ms : Nat} (C : CX g x cc RXL fr ce sl lc) {b : Nat} {fs : List Value} (hM : Ct g yXM_flush cXM_flush 1 (some .int) lv (.ref b :: As) M Po mc ms) (hb : M b = some (.inr (ci_M, fs))) (hdg : decode cc pc = .ok (.invokevirtual 58, 3)) (hst : st0 = As.reverse ++ .ref b :: rest) (hnA : As.length = 0) (hfr : lv + 1 ≤ fr) (hlc : 8 + (1 + 11) + 40 * lv ≤ lc) (hW : (rest.map fun v => v.category).sum ≤ 8) (hk : k + mc ≤ ce) (hn : n + ms ≤ sl) : RN g x M k n pc L st0 rest Po mc ms := rn_V C hM hb rfl al_419 al_420 al_421 al_26 al_422 ⟨by decide, by decide, by decide +kernel⟩ hnA hst hdg hfr hlc hW hk hn
theorem cl_XL_62 {st0 As : List Value} {Po : Option Value → mp_M → Prop} {lv mc ms : Nat} (C : CX g x cc RXL fr ce sl lc) {b : Nat} {fs : List Value} (hM : Ct g yXM_merge cXM_merge 3 (some .int) lv (.ref b :: As) M Po mc ms) (hb : M b = some (.inr (ci_M, fs))) (hdg : decode cc pc = .ok (.invokevirtual 62, 3)) (hst : st0 = As.reverse ++ .ref b :: rest) (hnA : As.length = 0) (hfr : lv + 1 ≤ fr) (hlc : 8 + (3 + 11) + 40 * lv ≤ lc) (hW : (rest.map fun v => v.category).sum ≤ 8) (hk : k + mc ≤ ce) (hn : n + ms ≤ sl) : RN g x M k n pc L st0 rest Po mc ms := rn_V C hM hb rfl al_423 al_424 al_425 al_26 al_426 ⟨by decide, by decide, by decide +kernel⟩ hnA hst hdg hfr hlc hW hk hn
theorem cl_XM_102 {st0 As : List Value} {Po : Option Value → mp_M → Prop} {lv mc ms : Nat} (C : CX g x cc RXM fr ce sl lc) {b : Nat} {fs : List Value} (hM : Ct g yXM_run cXM_run 5 (some .int) lv (.ref b :: As) M Po mc ms) (hb : M b = some (.inr (ci_M, fs))) (hdg : decode cc pc = .ok (.invokevirtual 102, 3)) (hst : st0 = As.reverse ++ .ref b :: rest) (hnA : As.length = 2) (hfr : lv + 1 ≤ fr) (hlc : 8 + (5 + 11) + 40 * lv ≤ lc) (hW : (rest.map fun v => v.category).sum ≤ 8) (hk : k + mc ≤ ce) (hn : n + ms ≤ sl) : RN g x M k n pc L st0 rest Po mc ms := rn_V C hM hb rfl al_427 al_428 al_429 al_26 al_430 ⟨by decide, by decide, by decide +kernel⟩ hnA hst hdg hfr hlc hW hk hn
theorem cl_XL_40 {st0 As : List Value} {Po : Option Value → mp_M → Prop} {lv mc ms : Nat} (C : CX g x cc RXL fr ce sl lc) {b : Nat} {fs : List Value} (hM : Ct g yXM_get cXM_get 3 (some .int) lv (.ref b :: As) M Po mc ms) (hb : M b = some (.inr (ci_M, fs))) (hdg : decode cc pc = .ok (.invokevirtual 40, 3)) (hst : st0 = As.reverse ++ .ref b :: rest) (hnA : As.length = 2) (hfr : lv + 1 ≤ fr) (hlc : 8 + (3 + 11) + 40 * lv ≤ lc) (hW : (rest.map fun v => v.category).sum ≤ 8) (hk : k + mc ≤ ce) (hn : n + ms ≤ sl) : RN g x M k n pc L st0 rest Po mc ms := rn_V C hM hb rfl al_431 al_432 al_433 al_26 al_434 ⟨by decide, by decide, by decide +kernel⟩ hnA hst hdg hfr hlc hW hk hn
theorem cl_XM_110 {st0 As : List Value} {Po : Option Value → mp_M → Prop} {lv mc ms : Nat} (C : CX g x cc RXM fr ce sl lc) {b : Nat} {fs : List Value} (hM : Ct g yXM_seen cXM_seen 5 (some .boolean) lv (.ref b :: As) M Po mc ms) (hb : M b = some (.inr (ci_M, fs))) (hdg : decode cc pc = .ok (.invokevirtual 110, 3)) (hst : st0 = As.reverse ++ .ref b :: rest) (hnA : As.length = 2) (hfr : lv + 1 ≤ fr) (hlc : 8 + (5 + 11) + 40 * lv ≤ lc) (hW : (rest.map fun v => v.category).sum ≤ 8) (hk : k + mc ≤ ce) (hn : n + ms ≤ sl) : RN g x M k n pc L st0 rest Po mc ms := rn_V C hM hb rfl al_435 al_436 al_17 al_26 al_437 ⟨by decide, by decide, by decide +kernel⟩ hnA hst hdg hfr hlc hW hk hn
theorem cl_XM_107 {st0 As : List Value} {Po : Option Value → mp_M → Prop} {lv mc ms : Nat} (C : CX g x cc RXM fr ce sl lc) {b : Nat} {fs : List Value} (hM : Ct g yXM_winner cXM_winner 6 (some .int) lv (.ref b :: As) M Po mc ms) (hb : M b = some (.inr (ci_M, fs))) (hdg : decode cc pc = .ok (.invokevirtual 107, 3)) (hst : st0 = As.reverse ++ .ref b :: rest) (hnA : As.length = 2) (hfr : lv + 1 ≤ fr) (hlc : 8 + (6 + 11) + 40 * lv ≤ lc) (hW : (rest.map fun v => v.category).sum ≤ 8) (hk : k + mc ≤ ce) (hn : n + ms ≤ sl) : RN g x M k n pc L st0 rest Po mc ms := rn_V C hM hb rfl al_438 al_439 al_18 al_26 al_440 ⟨by decide, by decide, by decide +kernel⟩ hnA hst hdg hfr hlc hW hk hn
theorem ld_XM_106 (C : CX g x cc RXM fr ce sl lc) (q : Nat) (hd : decode cc pc = .ok (.ldc 106, 2)) (hq : pc + 2 = q) (kk : VV g x M k n q L (.int (-1000000) :: rest)) : VV g x M k n pc L rest := v_ldc C q al_441 hd hq kk
theorem cl_XL_44 {st0 As : List Value} {Po : Option Value → mp_M → Prop} {lv mc ms : Nat} (C : CX g x cc RXL fr ce sl lc) {b : Nat} {fs : List Value} (hM : Ct g yXM_stamp cXM_stamp 3 (some .int) lv (.ref b :: As) M Po mc ms) (hb : M b = some (.inr (ci_M, fs))) (hdg : decode cc pc = .ok (.invokevirtual 44, 3)) (hst : st0 = As.reverse ++ .ref b :: rest) (hnA : As.length = 2) (hfr : lv + 1 ≤ fr) (hlc : 8 + (3 + 11) + 40 * lv ≤ lc) (hW : (rest.map fun v => v.category).sum ≤ 8) (hk : k + mc ≤ ce) (hn : n + ms ≤ sl) : RN g x M k n pc L st0 rest Po mc ms := rn_V C hM hb rfl al_442 al_443 al_444 al_26 al_445 ⟨by decide, by decide, by decide +kernel⟩ hnA hst hdg hfr hlc hW hk hn
theorem cl_XL_48 {st0 As : List Value} {Po : Option Value → mp_M → Prop} {lv mc ms : Nat} (C : CX g x cc RXL fr ce sl lc) {b : Nat} {fs : List Value} (hM : Ct g yXM_next cXM_next 4 (some .int) lv (.ref b :: As) M Po mc ms) (hb : M b = some (.inr (ci_M, fs))) (hdg : decode cc pc = .ok (.invokevirtual 48, 3)) (hst : st0 = As.reverse ++ .ref b :: rest) (hnA : As.length = 2) (hfr : lv + 1 ≤ fr) (hlc : 8 + (4 + 11) + 40 * lv ≤ lc) (hW : (rest.map fun v => v.category).sum ≤ 8) (hk : k + mc ≤ ce) (hn : n + ms ≤ sl) : RN g x M k n pc L st0 rest Po mc ms := rn_V C hM hb rfl al_446 al_447 al_448 al_26 al_449 ⟨by decide, by decide, by decide +kernel⟩ hnA hst hdg hfr hlc hW hk hn
theorem cl_XL_53 {st0 As : List Value} {Po : Option Value → mp_M → Prop} {lv mc ms : Nat} (C : CX g x cc RXL fr ce sl lc) {b : Nat} {fs : List Value} (hM : Ct g yXM_nextRow cXM_nextRow 3 (some .int) lv (.ref b :: As) M Po mc ms) (hb : M b = some (.inr (ci_M, fs))) (hdg : decode cc pc = .ok (.invokevirtual 53, 3)) (hst : st0 = As.reverse ++ .ref b :: rest) (hnA : As.length = 1) (hfr : lv + 1 ≤ fr) (hlc : 8 + (3 + 11) + 40 * lv ≤ lc) (hW : (rest.map fun v => v.category).sum ≤ 8) (hk : k + mc ≤ ce) (hn : n + ms ≤ sl) : RN g x M k n pc L st0 rest Po mc ms := rn_V C hM hb rfl al_450 al_451 al_452 al_26 al_453 ⟨by decide, by decide, by decide +kernel⟩ hnA hst hdg hfr hlc hW hk hn
theorem cl_XM_113 {st0 As : List Value} {Po : Option Value → mp_M → Prop} {lv mc ms : Nat} (C : CX g x cc RXM fr ce sl lc) {b : Nat} {fs : List Value} (hM : Ct g yXM_next cXM_next 4 (some .int) lv (.ref b :: As) M Po mc ms) (hb : M b = some (.inr (ci_M, fs))) (hdg : decode cc pc = .ok (.invokevirtual 113, 3)) (hst : st0 = As.reverse ++ .ref b :: rest) (hnA : As.length = 2) (hfr : lv + 1 ≤ fr) (hlc : 8 + (4 + 11) + 40 * lv ≤ lc) (hW : (rest.map fun v => v.category).sum ≤ 8) (hk : k + mc ≤ ce) (hn : n + ms ≤ sl) : RN g x M k n pc L st0 rest Po mc ms := rn_V C hM hb rfl al_454 al_447 al_448 al_26 al_449 ⟨by decide, by decide, by decide +kernel⟩ hnA hst hdg hfr hlc hW hk hn
theorem cl_XL_66 {st0 As : List Value} {Po : Option Value → mp_M → Prop} {lv mc ms : Nat} (C : CX g x cc RXL fr ce sl lc) {b : Nat} {fs : List Value} (hM : Ct g yXM_sync cXM_sync 1 (some .int) lv (.ref b :: As) M Po mc ms) (hb : M b = some (.inr (ci_M, fs))) (hdg : decode cc pc = .ok (.invokevirtual 66, 3)) (hst : st0 = As.reverse ++ .ref b :: rest) (hnA : As.length = 0) (hfr : lv + 1 ≤ fr) (hlc : 8 + (1 + 11) + 40 * lv ≤ lc) (hW : (rest.map fun v => v.category).sum ≤ 8) (hk : k + mc ≤ ce) (hn : n + ms ≤ sl) : RN g x M k n pc L st0 rest Po mc ms := rn_V C hM hb rfl al_455 al_456 al_457 al_26 al_458 ⟨by decide, by decide, by decide +kernel⟩ hnA hst hdg hfr hlc hW hk hn
theorem cl_XL_70 {st0 As : List Value} {Po : Option Value → mp_M → Prop} {lv mc ms : Nat} (C : CX g x cc RXL fr ce sl lc) {b : Nat} {fs : List Value} (hM : Ct g yXM_crash cXM_crash 2 (some .int) lv (.ref b :: As) M Po mc ms) (hb : M b = some (.inr (ci_M, fs))) (hdg : decode cc pc = .ok (.invokevirtual 70, 3)) (hst : st0 = As.reverse ++ .ref b :: rest) (hnA : As.length = 0) (hfr : lv + 1 ≤ fr) (hlc : 8 + (2 + 11) + 40 * lv ≤ lc) (hW : (rest.map fun v => v.category).sum ≤ 8) (hk : k + mc ≤ ce) (hn : n + ms ≤ sl) : RN g x M k n pc L st0 rest Po mc ms := rn_V C hM hb rfl al_459 al_460 al_461 al_26 al_462 ⟨by decide, by decide, by decide +kernel⟩ hnA hst hdg hfr hlc hW hk hn
theorem cl_XL_74 {st0 As : List Value} {Po : Option Value → mp_M → Prop} {lv mc ms : Nat} (C : CX g x cc RXL fr ce sl lc) {b : Nat} {fs : List Value} (hM : Ct g yXM_tick cXM_tick 2 (some .int) lv (.ref b :: As) M Po mc ms) (hb : M b = some (.inr (ci_M, fs))) (hdg : decode cc pc = .ok (.invokevirtual 74, 3)) (hst : st0 = As.reverse ++ .ref b :: rest) (hnA : As.length = 1) (hfr : lv + 1 ≤ fr) (hlc : 8 + (2 + 11) + 40 * lv ≤ lc) (hW : (rest.map fun v => v.category).sum ≤ 8) (hk : k + mc ≤ ce) (hn : n + ms ≤ sl) : RN g x M k n pc L st0 rest Po mc ms := rn_V C hM hb rfl al_463 al_464 al_465 al_26 al_466 ⟨by decide, by decide, by decide +kernel⟩ hnA hst hdg hfr hlc hW hk hn
theorem cl_XL_78 {st0 As : List Value} {Po : Option Value → mp_M → Prop} {lv mc ms : Nat} (C : CX g x cc RXL fr ce sl lc) {b : Nat} {fs : List Value} (hM : Ct g yXM_count cXM_count 2 (some .int) lv (.ref b :: As) M Po mc ms) (hb : M b = some (.inr (ci_M, fs))) (hdg : decode cc pc = .ok (.invokevirtual 78, 3)) (hst : st0 = As.reverse ++ .ref b :: rest) (hnA : As.length = 1) (hfr : lv + 1 ≤ fr) (hlc : 8 + (2 + 11) + 40 * lv ≤ lc) (hW : (rest.map fun v => v.category).sum ≤ 8) (hk : k + mc ≤ ce) (hn : n + ms ≤ sl) : RN g x M k n pc L st0 rest Po mc ms := rn_V C hM hb rfl al_467 al_468 al_469 al_26 al_470 ⟨by decide, by decide, by decide +kernel⟩ hnA hst hdg hfr hlc hW hk hn
theorem cl_XL_82 {st0 As : List Value} {Po : Option Value → mp_M → Prop} {lv mc ms : Nat} (C : CX g x cc RXL fr ce sl lc) {b : Nat} {fs : List Value} (hM : Ct g yXM_run cXM_run 5 (some .int) lv (.ref b :: As) M Po mc ms) (hb : M b = some (.inr (ci_M, fs))) (hdg : decode cc pc = .ok (.invokevirtual 82, 3)) (hst : st0 = As.reverse ++ .ref b :: rest) (hnA : As.length = 2) (hfr : lv + 1 ≤ fr) (hlc : 8 + (5 + 11) + 40 * lv ≤ lc) (hW : (rest.map fun v => v.category).sum ≤ 8) (hk : k + mc ≤ ce) (hn : n + ms ≤ sl) : RN g x M k n pc L st0 rest Po mc ms := rn_V C hM hb rfl al_471 al_428 al_429 al_26 al_430 ⟨by decide, by decide, by decide +kernel⟩ hnA hst hdg hfr hlc hW hk hn
theorem cl_XT_27 {st0 As : List Value} {Po : Option Value → mp_M → Prop} {lv mc ms : Nat} (C : CX g x cc RXT fr ce sl lc) (hM : Ct g yXS_pointSlot cXS_pointSlot 2 (some .int) lv As M Po mc ms) (hdg : decode cc pc = .ok (.invokestatic 27, 3)) (hst : st0 = As.reverse ++ rest) (hnA : As.length = 2) (hfr : lv + 1 ≤ fr) (hlc : 8 + (2 + 11) + 40 * lv ≤ lc) (hW : (rest.map fun v => v.category).sum ≤ 8) (hk : k + mc ≤ ce) (hn : n + ms ≤ sl) : RN g x M k n pc L st0 rest Po mc ms := rn_SN C hM (fun s h => h.2.2.2.1) al_116 al_20 al_117 ⟨by decide, by decide, by decide +kernel⟩ hnA hst hdg hfr hlc hW hk hn
theorem cl_XT_45 {st0 As : List Value} {Po : Option Value → mp_M → Prop} {lv mc ms : Nat} (C : CX g x cc RXT fr ce sl lc) (hM : Ct g yXS_wipeSlot cXS_wipeSlot 3 (some .int) lv As M Po mc ms) (hdg : decode cc pc = .ok (.invokestatic 45, 3)) (hst : st0 = As.reverse ++ rest) (hnA : As.length = 3) (hfr : lv + 1 ≤ fr) (hlc : 8 + (3 + 11) + 40 * lv ≤ lc) (hW : (rest.map fun v => v.category).sum ≤ 8) (hk : k + mc ≤ ce) (hn : n + ms ≤ sl) : RN g x M k n pc L st0 rest Po mc ms := rn_SN C hM (fun s h => h.2.2.2.2.1) al_238 al_20 al_239 ⟨by decide, by decide, by decide +kernel⟩ hnA hst hdg hfr hlc hW hk hn
theorem al_arrI : (.arrayClass .int : Cond) ∈ AL := al_373
end POOL
end
section

noncomputable def bo (p : Prop) : Bool := @decide p (Classical.propDecidable p)
theorem bo_t {p : Prop} : bo p = true ↔ p := by
  unfold bo
  exact @decide_eq_true_iff p (Classical.propDecidable p)
theorem bo_f {p : Prop} : bo p = false ↔ ¬ p := by
  unfold bo
  exact @decide_eq_false_iff_not p (Classical.propDecidable p)
abbrev en_E : Type := Nat × Nat × Nat × Nat × Nat × Int32 × Nat
def en_k (e : en_E) : Nat := e.1
def en_r (e : en_E) : Nat := e.2.1
def en_c (e : en_E) : Nat := e.2.2.1
def en_l (e : en_E) : Nat := e.2.2.2.1
def en_p (e : en_E) : Nat := e.2.2.2.2.1
def en_v (e : en_E) : Int32 := e.2.2.2.2.2.1
def en_t (e : en_E) : Nat := e.2.2.2.2.2.2
def en_ok (e : en_E) : Prop := en_k e ≤ 2 ∧ en_r e < 16 ∧ en_c e ≤ en_l e ∧ en_l e < 8 ∧ (en_k e ≠ 2 → en_l e = en_c e) ∧ en_p e ≤ 9999 ∧ (en_k e ≠ 0 → en_v e = 0) ∧ (en_t e ≤ 100000 ∨ (en_k e = 0 ∧ en_t e = 2147483647))
def en_ws (r c l : Nat) : Nat := 128 + r * 36 + l * (l + 1) / 2 + c
def en_s (e : en_E) : Nat := if en_k e = 2 then en_ws (en_r e) (en_c e) (en_l e) else en_r e * 8 + en_c e
theorem en_tri : ∀ l, l < 8 → ∀ c, c < 8 → c ≤ l → l * (l + 1) / 2 + c < 36 := by decide +kernel
theorem en_trj : ∀ l, l < 8 → ∀ c, c < 8 → ∀ l', l' < 8 → ∀ c', c' < 8 → c ≤ l → c' ≤ l' → l * (l + 1) / 2 + c = l' * (l' + 1) / 2 + c' → l = l' ∧ c = c' := by
  intro l hl c hc l' hl' c' hc' h1 h2 h3
  rcases (show l = 0 ∨ l = 1 ∨ l = 2 ∨ l = 3 ∨ l = 4 ∨ l = 5 ∨ l = 6 ∨ l = 7 by omega) with rfl | rfl | rfl | rfl | rfl | rfl | rfl | rfl <;> rcases (show l' = 0 ∨ l' = 1 ∨ l' = 2 ∨ l' = 3 ∨ l' = 4 ∨ l' = 5 ∨ l' = 6 ∨ l' = 7 by omega) with rfl | rfl | rfl | rfl | rfl | rfl | rfl | rfl <;> omega
theorem en_ws_lt {r c l : Nat} (hr : r < 16) (hc : c ≤ l) (hl : l < 8) : 128 ≤ en_ws r c l ∧ en_ws r c l < 704 := by
  have := en_tri l hl c (by omega) hc
  unfold en_ws
  omega
theorem en_ws_inj {r c l r' c' l' : Nat} (hc : c ≤ l) (hl : l < 8) (hc' : c' ≤ l') (hl' : l' < 8) (h : en_ws r c l = en_ws r' c' l') : r = r' ∧ c = c' ∧ l = l' := by
  have h1 := en_tri l hl c (by omega) hc
  have h2 := en_tri l' hl' c' (by omega) hc'
  unfold en_ws at h
  have hr : r = r' := by omega
  have h3 := en_trj l hl c (by omega) l' hl' c' (by omega) hc hc' (by omega)
  exact ⟨hr, h3.2, h3.1⟩
theorem en_s_w {e : en_E} (h : en_k e = 2) : en_s e = en_ws (en_r e) (en_c e) (en_l e) := if_pos h
theorem en_s_p {e : en_E} (h : en_k e ≠ 2) : en_s e = en_r e * 8 + en_c e := if_neg h
theorem en_s_lt {e : en_E} (h : en_ok e) : en_s e < 704 := by
  obtain ⟨h1, h2, h3, h4, h5, h6, h7, h8⟩ := h
  by_cases hk : en_k e = 2
  · rw [en_s_w hk]
    exact (en_ws_lt h2 h3 h4).2
  · rw [en_s_p hk]
    omega
theorem en_s_128 {e : en_E} (h : en_ok e) : en_s e < 128 ↔ en_k e ≠ 2 := by
  obtain ⟨h1, h2, h3, h4, h5, h6, h7, h8⟩ := h
  by_cases hk : en_k e = 2
  · rw [en_s_w hk]
    have := (en_ws_lt h2 h3 h4).1
    constructor
    · intro h; omega
    · intro h; exact absurd hk h
  · rw [en_s_p hk]
    constructor
    · intro _; exact hk
    · intro _; omega
theorem en_s_inj {e f : en_E} (he : en_ok e) (hf : en_ok f) (h : en_s e = en_s f) : (en_k e = 2 ↔ en_k f = 2) ∧ en_r e = en_r f ∧ en_c e = en_c f ∧ en_l e = en_l f := by
  have g1 := en_s_128 he
  have g2 := en_s_128 hf
  rw [h] at g1
  have hkk : en_k e ≠ 2 ↔ en_k f ≠ 2 := g1.symm.trans g2
  obtain ⟨h1, h2, h3, h4, h5, h6, h7, h8⟩ := he
  obtain ⟨f1, f2, f3, f4, f5, f6, f7, f8⟩ := hf
  by_cases hk : en_k e = 2
  · have hk2 : en_k f = 2 := Classical.byContradiction fun z => hkk.mpr z hk
    rw [en_s_w hk, en_s_w hk2] at h
    exact ⟨⟨fun _ => hk2, fun _ => hk⟩, en_ws_inj h3 h4 f3 f4 h⟩
  · have hk2 := hkk.mp hk
    rw [en_s_p hk, en_s_p hk2] at h
    have l1 := h5 hk
    have l2 := f5 hk2
    exact ⟨⟨fun z => absurd z hk, fun z => absurd z hk2⟩, by omega, by omega, by omega⟩
def en_w (e f : en_E) : Bool := decide (en_p f < en_p e ∨ (en_p e = en_p f ∧ (en_k f < en_k e ∨ (en_k e = en_k f ∧ ((en_v f).toInt < (en_v e).toInt ∨ ((en_v e).toInt = (en_v f).toInt ∧ en_t f < en_t e))))))
theorem en_w_t {e f : en_E} : en_w e f = true ↔ (en_p f < en_p e ∨ (en_p e = en_p f ∧ (en_k f < en_k e ∨ (en_k e = en_k f ∧ ((en_v f).toInt < (en_v e).toInt ∨ ((en_v e).toInt = (en_v f).toInt ∧ en_t f < en_t e)))))) := decide_eq_true_iff
theorem en_w_f {e f : en_E} : en_w e f = false ↔ ¬ (en_p f < en_p e ∨ (en_p e = en_p f ∧ (en_k f < en_k e ∨ (en_k e = en_k f ∧ ((en_v f).toInt < (en_v e).toInt ∨ ((en_v e).toInt = (en_v f).toInt ∧ en_t f < en_t e)))))) := decide_eq_false_iff_not
theorem en_w_self (e : en_E) : en_w e e = false := by
  rw [en_w_f]
  omega
theorem en_w_tr {e f h : en_E} (h1 : en_w e f = true) (h2 : en_w f h = true) : en_w e h = true := by
  rw [en_w_t] at *
  omega
theorem en_w_as {e f : en_E} (h1 : en_w e f = true) : en_w f e = false := by
  rw [en_w_t] at h1
  rw [en_w_f]
  omega

theorem en_w_tn {e f h : en_E} (h1 : en_w f e = false) (h2 : en_w h f = false) : en_w h e = false := by
  rw [en_w_f] at *
  omega
theorem en_w_tot {e f : en_E} (he : en_ok e) (hf : en_ok f) (hs : en_s e = en_s f) (h1 : en_w e f = false) (h2 : en_w f e = false) : e = f := by
  obtain ⟨g1, g2, g3, g4⟩ := en_s_inj he hf hs
  rw [en_w_f] at h1 h2
  have a1 : en_p e = en_p f := by omega
  have a2 : en_k e = en_k f := by omega
  have a3 : (en_v e).toInt = (en_v f).toInt := by omega
  have a4 : en_t e = en_t f := by omega
  have a5 : en_v e = en_v f := Int32.toInt_inj.mp a3
  obtain ⟨e1, e2, e3, e4, e5, e6, e7⟩ := e
  obtain ⟨f1, f2, f3, f4, f5, f6, f7⟩ := f
  simp only [en_k, en_r, en_c, en_l, en_p, en_v, en_t] at *
  subst a1 a2 a4 a5 g2 g3 g4
  rfl
def en_m (a b : Option en_E) : Option en_E := match a, b with
  | a, none => a
  | none, some e => some e
  | some h, some e => if en_w e h = true then some e else some h
def en_X (S : en_E → Prop) (o : Option en_E) : Prop := match o with
  | none => ∀ e, ¬ S e
  | some e => S e ∧ ∀ f, S f → en_w f e = false
theorem en_X_u {S : en_E → Prop} {s : Nat} (hS : ∀ e, S e → en_ok e ∧ en_s e = s) {a b : Option en_E} (ha : en_X S a) (hb : en_X S b) : a = b := by
  cases a with
  | none => cases b with
    | none => rfl
    | some f => exact absurd hb.1 (ha f)
  | some e => cases b with
    | none => exact absurd ha.1 (hb e)
    | some f =>
      have h1 := hS e ha.1
      have h2 := hS f hb.1
      rw [en_w_tot h1.1 h2.1 (h1.2.trans h2.2.symm) (hb.2 e ha.1) (ha.2 f hb.1)]
theorem en_X_m {S : en_E → Prop} {a b : Option en_E} (ha : en_X S a) : en_X (fun e => S e ∨ b = some e) (en_m a b) := by
  cases b with
  | none =>
    cases a with
    | none => exact fun e h => h.elim (ha e) (fun z => by cases z)
    | some h => exact ⟨Or.inl ha.1, fun f hf => hf.elim (ha.2 f) (fun z => by cases z)⟩
  | some e =>
    cases a with
    | none => exact ⟨Or.inr rfl, fun f hf => hf.elim (fun z => absurd z (ha f)) (fun z => by cases z; exact en_w_self e)⟩
    | some h =>
      unfold en_m
      by_cases hw : en_w e h = true
      · simp only [hw, if_true]
        refine ⟨Or.inr rfl, fun f hf => ?_⟩
        rcases hf with hf | hf
        · exact en_w_tn (en_w_as hw) (ha.2 f hf)
        · cases hf
          exact en_w_self e
      · simp only [hw]
        refine ⟨Or.inl ha.1, fun f hf => ?_⟩
        rcases hf with hf | hf
        · exact ha.2 f hf
        · cases hf
          exact Bool.eq_false_iff.mpr hw
theorem en_X_cg {S S' : en_E → Prop} {a : Option en_E} (h : ∀ e, S e ↔ S' e) (ha : en_X S a) : en_X S' a := by
  cases a with
  | none => exact fun e he => ha e ((h e).mpr he)
  | some e => exact ⟨(h e).mp ha.1, fun f hf => ha.2 f ((h f).mpr hf)⟩
theorem en_m_or {a b : Option en_E} {e : en_E} (h : en_m a b = some e) : a = some e ∨ b = some e := by
  cases b with
  | none => exact Or.inl (by cases a <;> exact h)
  | some f =>
    cases a with
    | none => exact Or.inr h
    | some h2 =>
      unfold en_m at h
      simp only at h
      split at h
      · exact Or.inr h
      · exact Or.inl h

def cn (P : Nat → Bool) : Nat → Nat
  | 0 => 0
  | n + 1 => cn P n + (if P n = true then 1 else 0)
theorem cn_le (P : Nat → Bool) : ∀ n, cn P n ≤ n
  | 0 => Nat.le_refl _
  | n + 1 => by
    have := cn_le P n
    unfold cn
    split <;> omega
theorem cn_eq {P Q : Nat → Bool} : ∀ n, (∀ j, j < n → P j = Q j) → cn P n = cn Q n
  | 0, _ => rfl
  | n + 1, h => by
    unfold cn
    rw [cn_eq n (fun j hj => h j (by omega)), h n (by omega)]
theorem cn_inc {P Q : Nat → Bool} {s : Nat} : ∀ n, s < n → P s = false → Q s = true → (∀ j, j < n → j ≠ s → P j = Q j) → cn Q n = cn P n + 1
  | 0, h, _, _, _ => by omega
  | n + 1, h, hp, hq, ho => by
    unfold cn
    by_cases hs : s = n
    · subst hs
      rw [cn_eq (P := P) (Q := Q) s (fun j hj => ho j (by omega) (by omega)), hp, hq]
      simp
    · rw [cn_inc n (by omega) hp hq (fun j hj hne => ho j (by omega) hne), ho n (by omega) (fun z => hs z.symm)]
      omega
theorem cn_pos {P : Nat → Bool} {s : Nat} : ∀ n, s < n → P s = true → 0 < cn P n
  | 0, h, _ => by omega
  | n + 1, h, hp => by
    unfold cn
    by_cases hs : s = n
    · subst hs
      rw [hp]
      simp
    · have := cn_pos n (by omega) hp
      omega
theorem cn_0 {P : Nat → Bool} {n : Nat} (h : cn P n = 0) (s : Nat) (hs : s < n) : P s = false := by
  cases hp : P s with
  | false => rfl
  | true =>
    have := cn_pos n hs hp
    omega
theorem cn_z {P : Nat → Bool} : ∀ n, (∀ j, j < n → P j = false) → cn P n = 0
  | 0, _ => rfl
  | n + 1, h => by
    unfold cn
    rw [cn_z n (fun j hj => h j (by omega)), h n (by omega)]
    simp

abbrev tb_T : Type := Nat → Option en_E
def tb_ok (T : tb_T) : Prop := ∀ (s : Nat) (e : en_E), T s = some e → en_ok e ∧ en_s e = s
def tb_0 : tb_T := fun _ => none
def tb_a (T : tb_T) (e : en_E) : tb_T := va_up T (en_s e) (en_m (T (en_s e)) (some e))
def tb_m (T U : tb_T) : tb_T := fun s => en_m (T s) (U s)
def tb_n (T : tb_T) : Nat := cn (fun s => (T s).isSome) 704
def tb_i (o : Option en_E) : Bool := match o with
  | some e => decide (en_k e = 2)
  | none => false
def tb_w (T : tb_T) : Nat := cn (fun s => tb_i (T s)) 704
theorem tb_ok_0 : tb_ok tb_0 := fun _ _ h => by cases h
theorem tb_ok_a {T : tb_T} {e : en_E} (h : tb_ok T) (he : en_ok e) : tb_ok (tb_a T e) := by
  intro s f hf
  unfold tb_a at hf
  by_cases hs : s = en_s e
  · subst hs
    rw [va_up_self] at hf
    rcases en_m_or hf with h1 | h1
    · exact h _ _ h1
    · cases h1
      exact ⟨he, rfl⟩
  · rw [va_up_ne _ _ hs] at hf
    exact h s f hf
theorem tb_ok_m {T U : tb_T} (h : tb_ok T) (h2 : tb_ok U) : tb_ok (tb_m T U) := by
  intro s f hf
  rcases en_m_or hf with h1 | h1
  · exact h _ _ h1
  · exact h2 _ _ h1
theorem tb_lt {T : tb_T} (h : tb_ok T) {s : Nat} {e : en_E} (he : T s = some e) : s < 704 := by
  obtain ⟨h1, h2⟩ := h s e he
  rw [← h2]
  exact en_s_lt h1
theorem tb_n_le (T : tb_T) : tb_n T ≤ 704 := cn_le _ 704
theorem tb_w_le (T : tb_T) : tb_w T ≤ 704 := cn_le _ 704
theorem tb_n_0 : tb_n tb_0 = 0 := cn_z _ (fun _ _ => rfl)
theorem tb_w_0 : tb_w tb_0 = 0 := cn_z _ (fun _ _ => rfl)
theorem tb_up_o {T : tb_T} {s j : Nat} {o : Option en_E} (h : j ≠ s) : va_up T s o j = T j := va_up_ne _ _ h
theorem tb_n_new {T : tb_T} {s : Nat} {e : en_E} (hs : s < 704) (h : T s = none) : tb_n (va_up T s (some e)) = tb_n T + 1 :=
  cn_inc (P := fun s => (T s).isSome) (Q := fun j => (va_up T s (some e) j).isSome) (s := s) 704 hs (by show (T s).isSome = false; rw [h]; rfl) (by show (va_up T s (some e) s).isSome = true; rw [va_up_self]; rfl) (fun j _ hne => by show (T j).isSome = (va_up T s (some e) j).isSome; rw [tb_up_o hne])
theorem tb_n_old {T : tb_T} {s : Nat} {e h : en_E} (hh : T s = some h) : tb_n (va_up T s (some e)) = tb_n T := by
  refine cn_eq 704 (fun j _ => ?_)
  show (va_up T s (some e) j).isSome = (T j).isSome
  by_cases hj : j = s
  · subst hj
    rw [va_up_self, hh]
    rfl
  · rw [tb_up_o hj]
theorem tb_n_del {T : tb_T} {s : Nat} {h : en_E} (hs : s < 704) (hh : T s = some h) : tb_n T = tb_n (va_up T s none) + 1 :=
  cn_inc (P := fun j => (va_up T s none j).isSome) (Q := fun s => (T s).isSome) (s := s) 704 hs (by show (va_up T s none s).isSome = false; rw [va_up_self]; rfl) (by show (T s).isSome = true; rw [hh]; rfl) (fun j _ hne => by show (va_up T s none j).isSome = (T j).isSome; rw [tb_up_o hne])
theorem tb_w_up {T : tb_T} {s : Nat} {o : Option en_E} (h : tb_i o = tb_i (T s)) : tb_w (va_up T s o) = tb_w T := by
  refine cn_eq 704 (fun j _ => ?_)
  show tb_i (va_up T s o j) = tb_i (T j)
  by_cases hj : j = s
  · subst hj
    rw [va_up_self]
    exact h
  · rw [tb_up_o hj]
theorem tb_w_inc {T : tb_T} {s : Nat} {o : Option en_E} (hs : s < 704) (h : tb_i (T s) = false) (ho : tb_i o = true) : tb_w (va_up T s o) = tb_w T + 1 :=
  cn_inc (P := fun s => tb_i (T s)) (Q := fun j => tb_i (va_up T s o j)) (s := s) 704 hs h (by show tb_i (va_up T s o s) = true; rw [va_up_self]; exact ho) (fun j _ hne => by show tb_i (T j) = tb_i (va_up T s o j); rw [tb_up_o hne])
theorem tb_w_dec {T : tb_T} {s : Nat} {o : Option en_E} (hs : s < 704) (h : tb_i (T s) = true) (ho : tb_i o = false) : tb_w T = tb_w (va_up T s o) + 1 :=
  cn_inc (P := fun j => tb_i (va_up T s o j)) (Q := fun s => tb_i (T s)) (s := s) 704 hs (by show tb_i (va_up T s o s) = false; rw [va_up_self]; exact ho) h (fun j _ hne => by show tb_i (va_up T s o j) = tb_i (T j); rw [tb_up_o hne])

def tb_c (T : tb_T) (r c p : Nat) : Prop := ∃ (s : Nat) (e : en_E), T s = some e ∧ en_k e = 2 ∧ en_r e = r ∧ en_c e ≤ c ∧ c ≤ en_l e ∧ p ≤ en_p e
def tb_cs (T : tb_T) (r p f l : Nat) : Prop := ∃ e : en_E, T (en_ws r f l) = some e ∧ p ≤ en_p e
theorem tb_c_iff {T : tb_T} (h : tb_ok T) {r c p : Nat} (hr : r < 16) (hc : c < 8) : tb_c T r c p ↔ ∃ f l : Nat, f ≤ c ∧ c ≤ l ∧ l < 8 ∧ tb_cs T r p f l := by
  constructor
  · rintro ⟨s, e, h1, h2, h3, h4, h5, h6⟩
    obtain ⟨g1, g2⟩ := h s e h1
    refine ⟨en_c e, en_l e, h4, h5, g1.2.2.2.1, e, ?_, h6⟩
    rw [← h3, ← en_s_w h2, g2]
    exact h1
  · rintro ⟨f, l, h1, h2, h3, e, h4, h5⟩
    obtain ⟨g1, g2⟩ := h _ e h4
    have hk : en_k e = 2 := Classical.byContradiction fun z => by
      have a1 := (en_s_128 g1).mpr z
      have a2 := (en_ws_lt (r := r) (c := f) (l := l) hr (by omega) h3).1
      omega
    rw [en_s_w hk] at g2
    obtain ⟨b1, b2, b3⟩ := en_ws_inj g1.2.2.1 g1.2.2.2.1 (by omega) h3 g2
    exact ⟨_, e, h4, hk, b1, by omega, by omega, h5⟩
theorem tb_c_0 {T : tb_T} (h : tb_ok T) (hw : tb_w T = 0) {r c p : Nat} : ¬ tb_c T r c p := by
  rintro ⟨s, e, h1, h2, -⟩
  have := cn_0 (P := fun s => tb_i (T s)) hw s (tb_lt h h1)
  have h3 : tb_i (T s) = false := this
  rw [h1] at h3
  simp [tb_i, h2] at h3
noncomputable def tb_d (T : tb_T) : tb_T := fun s => match T s with
  | none => none
  | some e => if bo (en_k e ≠ 2 ∧ tb_c T (en_r e) (en_c e) (en_p e)) = true then none else some e
def tb_o (now grace : Nat) (T : tb_T) : tb_T := fun s => match T s with
  | none => none
  | some e => if en_t e + grace ≤ now then none else some e
noncomputable def tb_j (now grace : Nat) (all : Bool) (ts : List tb_T) : tb_T := if all = true then tb_o now grace (tb_d (ts.foldl tb_m tb_0)) else tb_d (ts.foldl tb_m tb_0)
theorem tb_ok_d {T : tb_T} (h : tb_ok T) : tb_ok (tb_d T) := by
  intro s e he
  unfold tb_d at he
  cases hs : T s with
  | none => rw [hs] at he; cases he
  | some f =>
    rw [hs] at he
    simp only at he
    split at he
    · cases he
    · cases he
      exact h s _ hs
theorem tb_ok_o {now grace : Nat} {T : tb_T} (h : tb_ok T) : tb_ok (tb_o now grace T) := by
  intro s e he
  unfold tb_o at he
  cases hs : T s with
  | none => rw [hs] at he; cases he
  | some f =>
    rw [hs] at he
    simp only at he
    split at he
    · cases he
    · cases he
      exact h s _ hs
theorem tb_ok_f : ∀ (ts : List tb_T) (T : tb_T), tb_ok T → (∀ t, t ∈ ts → tb_ok t) → tb_ok (ts.foldl tb_m T)
  | [], _, h, _ => h
  | t :: ts, T, h, ht => tb_ok_f ts (tb_m T t) (tb_ok_m h (ht t (List.mem_cons_self))) (fun u hu => ht u (List.mem_cons_of_mem _ hu))
theorem tb_ok_j {now grace : Nat} {all : Bool} {ts : List tb_T} (ht : ∀ t, t ∈ ts → tb_ok t) : tb_ok (tb_j now grace all ts) := by
  unfold tb_j
  split
  · exact tb_ok_o (tb_ok_d (tb_ok_f ts tb_0 tb_ok_0 ht))
  · exact tb_ok_d (tb_ok_f ts tb_0 tb_ok_0 ht)
theorem tb_X_f : ∀ (ts : List tb_T) (T : tb_T) (s : Nat) (S : en_E → Prop), en_X S (T s) → en_X (fun e => S e ∨ ∃ t, t ∈ ts ∧ t s = some e) ((ts.foldl tb_m T) s)
  | [], T, s, S, h => en_X_cg (fun e => ⟨fun z => Or.inl z, fun z => z.elim id (fun ⟨t, h1, _⟩ => by cases h1)⟩) h
  | t :: ts, T, s, S, h => by
    have h1 := tb_X_f ts (tb_m T t) s (fun e => S e ∨ t s = some e) (en_X_m h)
    refine en_X_cg (fun e => ⟨fun z => ?_, fun z => ?_⟩) h1
    · rcases z with (z | z) | ⟨u, h2, h3⟩
      · exact Or.inl z
      · exact Or.inr ⟨t, List.mem_cons_self, z⟩
      · exact Or.inr ⟨u, List.mem_cons_of_mem _ h2, h3⟩
    · rcases z with z | ⟨u, h2, h3⟩
      · exact Or.inl (Or.inl z)
      · rcases List.mem_cons.mp h2 with h4 | h4
        · subst h4
          exact Or.inl (Or.inr h3)
        · exact Or.inr ⟨u, h4, h3⟩

abbrev st_R : Type := List (Nat × tb_T)
abbrev st_S : Type := Nat × Nat × Nat × tb_T × List en_E × Nat × st_R
def st_cap (S : st_S) : Nat := S.1
def st_gr (S : st_S) : Nat := S.2.1
def st_now (S : st_S) : Nat := S.2.2.1
def st_mem (S : st_S) : tb_T := S.2.2.2.1
def st_log (S : st_S) : List en_E := S.2.2.2.2.1
def st_safe (S : st_S) : Nat := S.2.2.2.2.2.1
def st_runs (S : st_S) : st_R := S.2.2.2.2.2.2
def st_ti (rs : st_R) (i : Nat) : Nat := (rs.getD i (0, tb_0)).1
def st_tb (rs : st_R) (i : Nat) : tb_T := (rs.getD i (0, tb_0)).2
def st_3 (rs : st_R) : Bool := decide (3 ≤ rs.length ∧ st_ti rs (rs.length - 2) = st_ti rs (rs.length - 3) ∧ st_ti rs (rs.length - 1) = st_ti rs (rs.length - 3))
noncomputable def st_j (now grace : Nat) (rs : st_R) (i tier : Nat) : st_R := rs.take i ++ [(tier, tb_j now grace (decide (i = 0)) ((rs.drop i).map Prod.snd))]
noncomputable def st_g (now grace : Nat) : Nat → st_R → st_R
  | 0, rs => rs
  | n + 1, rs => if st_3 rs = true then st_g now grace n (st_j now grace rs (rs.length - 3) (st_ti rs (rs.length - 3) + 1)) else rs
noncomputable def st_f (S : st_S) : st_S := if tb_n (st_mem S) = 0 then S else (st_cap S, st_gr S, st_now S, tb_0, [], 0, st_g (st_now S) (st_gr S) ((st_runs S).length + 1) (st_runs S ++ [(0, st_mem S)]))
noncomputable def st_a (S : st_S) (e : en_E) : st_S := if st_cap S < tb_n (tb_a (st_mem S) e) then st_f (st_cap S, st_gr S, st_now S, tb_a (st_mem S) e, st_log S ++ [e], st_safe S, st_runs S) else (st_cap S, st_gr S, st_now S, tb_a (st_mem S) e, st_log S ++ [e], st_safe S, st_runs S)
def st_top (rs : st_R) : Nat := rs.foldl (fun m r => max m r.1) 0
def st_w (S : st_S) (s : Nat) : Option en_E := (st_runs S).foldl (fun o r => en_m o (r.2 s)) (st_mem S s)
def st_cov (S : st_S) (r c p : Nat) : Prop := tb_c (st_mem S) r c p ∨ ∃ t, t ∈ st_runs S ∧ tb_c t.2 r c p
noncomputable def st_v (S : st_S) (r c : Int32) : Option en_E := if 0 ≤ r.toInt ∧ r.toInt < 16 ∧ 0 ≤ c.toInt ∧ c.toInt < 8 then (match st_w S (r.toInt.toNat * 8 + c.toInt.toNat) with
  | none => none
  | some e => if en_k e = 0 ∧ st_now S < en_t e ∧ bo (st_cov S r.toInt.toNat c.toInt.toNat (en_p e)) = false then some e else none) else none
def st_cr (S : st_S) : st_S := (st_cap S, st_gr S, st_now S, ((st_log S).take (st_safe S)).foldl tb_a tb_0, (st_log S).take (st_safe S), st_safe S, st_runs S)
def st_ok (S : st_S) : Prop := tb_ok (st_mem S) ∧ (∀ e, e ∈ st_log S → en_ok e) ∧ (∀ t, t ∈ st_runs S → tb_ok t.2) ∧ st_safe S ≤ (st_log S).length
theorem st_g_fix (now grace : Nat) : ∀ (n : Nat) (rs : st_R), rs.length ≤ n → st_3 (st_g now grace n rs) = false
  | 0, rs, h => by
    have : rs = [] := List.length_eq_zero_iff.mp (by omega)
    subst this
    rfl
  | n + 1, rs, h => by
    unfold st_g
    split
    · next h3 =>
      refine st_g_fix now grace n _ ?_
      have h4 := of_decide_eq_true h3
      unfold st_j
      rw [List.length_append, List.length_take]
      simp
      omega
    · next h3 => exact Bool.eq_false_iff.mpr h3
end
section
def tb_mi (T U : tb_T) (i : Nat) : tb_T := fun s => if s < i then en_m (T s) (U s) else T s
theorem tb_mi_0 {T U : tb_T} : tb_mi T U 0 = T := by
  funext s
  exact if_neg (Nat.not_lt_zero s)
theorem tb_mi_e {T U : tb_T} (hT : tb_ok T) (hU : tb_ok U) : tb_mi T U 704 = tb_m T U := by
  funext s
  unfold tb_mi tb_m
  by_cases hs : s < 704
  · rw [if_pos hs]
  · rw [if_neg hs]
    cases h : T s with
    | some e => exact absurd (tb_lt hT h) hs
    | none =>
      cases h2 : U s with
      | some e => exact absurd (tb_lt hU h2) hs
      | none => rfl
theorem tb_mi_n {T U : tb_T} {i : Nat} (h : U i = none) : tb_mi T U (i + 1) = tb_mi T U i := by
  funext s
  unfold tb_mi
  by_cases h1 : s < i
  · rw [if_pos h1, if_pos (by omega)]
  · rw [if_neg h1]
    by_cases h2 : s = i
    · subst h2
      rw [if_pos (by omega), h]
      cases T s <;> rfl
    · rw [if_neg (by omega)]
theorem tb_mi_s {T U : tb_T} {i : Nat} {e : en_E} (h : U i = some e) (hs : en_s e = i) : tb_a (tb_mi T U i) e = tb_mi T U (i + 1) := by
  funext s
  unfold tb_a
  rw [hs]
  by_cases h2 : s = i
  · subst h2
    rw [va_up_self]
    unfold tb_mi
    rw [if_neg (Nat.lt_irrefl _), if_pos (Nat.lt_succ_self _), h]
  · rw [va_up_ne _ _ h2]
    unfold tb_mi
    by_cases h3 : s < i
    · rw [if_pos h3, if_pos (by omega)]
    · rw [if_neg h3, if_neg (by omega)]
theorem tb_ok_mi {T U : tb_T} (hT : tb_ok T) (hU : tb_ok U) (i : Nat) : tb_ok (tb_mi T U i) := by
  intro s e h
  unfold tb_mi at h
  split at h
  · exact tb_ok_m hT hU s e h
  · exact hT s e h
noncomputable def tb_di (T : tb_T) (i : Nat) : tb_T := fun s => if s < i then tb_d T s else T s
theorem tb_d_w {T : tb_T} {s : Nat} {e : en_E} (h : T s = some e) (hk : en_k e = 2) : tb_d T s = some e := by
  unfold tb_d
  rw [h]
  simp only
  rw [if_neg]
  intro z
  exact (bo_t.mp z).1 hk
theorem tb_d_s {T : tb_T} {s : Nat} {e : en_E} (h : tb_d T s = some e) : T s = some e := by
  unfold tb_d at h
  cases hs : T s with
  | none => rw [hs] at h; cases h
  | some f =>
    rw [hs] at h
    simp only at h
    split at h
    · cases h
    · exact h
theorem tb_di_s {T : tb_T} {i s : Nat} {e : en_E} (h : tb_di T i s = some e) : T s = some e := by
  unfold tb_di at h
  split at h
  · exact tb_d_s h
  · exact h
theorem tb_di_c {T : tb_T} {i r c p : Nat} : tb_c (tb_di T i) r c p ↔ tb_c T r c p := by
  constructor
  · rintro ⟨s, e, h1, h2⟩
    exact ⟨s, e, tb_di_s h1, h2⟩
  · rintro ⟨s, e, h1, h2, h3⟩
    refine ⟨s, e, ?_, h2, h3⟩
    unfold tb_di
    split
    · exact tb_d_w h1 h2
    · exact h1
theorem tb_di_0 {T : tb_T} : tb_di T 0 = T := by
  funext s
  exact if_neg (Nat.not_lt_zero s)
theorem tb_di_e {T : tb_T} (h : tb_ok T) : tb_di T 128 = tb_d T := by
  funext s
  unfold tb_di
  by_cases hs : s < 128
  · rw [if_pos hs]
  · rw [if_neg hs]
    cases h2 : T s with
    | none => unfold tb_d; rw [h2]
    | some e =>
      obtain ⟨g1, g2⟩ := h s e h2
      rw [tb_d_w h2 (Classical.byContradiction fun z => hs (by rw [← g2]; exact (en_s_128 g1).mpr z))]
theorem tb_di_n {T : tb_T} {i : Nat} (h : tb_d T i = T i) : tb_di T (i + 1) = tb_di T i := by
  funext s
  unfold tb_di
  by_cases h1 : s < i
  · rw [if_pos h1, if_pos (by omega)]
  · rw [if_neg h1]
    by_cases h2 : s = i
    · subst h2
      rw [if_pos (by omega), h]
    · rw [if_neg (by omega)]
theorem tb_di_d {T : tb_T} {i : Nat} (h : tb_d T i = none) : va_up (tb_di T i) i none = tb_di T (i + 1) := by
  funext s
  by_cases h2 : s = i
  · subst h2
    rw [va_up_self]
    unfold tb_di
    rw [if_pos (Nat.lt_succ_self _), h]
  · rw [va_up_ne _ _ h2]
    unfold tb_di
    by_cases h3 : s < i
    · rw [if_pos h3, if_pos (by omega)]
    · rw [if_neg h3, if_neg (by omega)]
theorem tb_ok_di {T : tb_T} (h : tb_ok T) (i : Nat) : tb_ok (tb_di T i) := fun s e he => h s e (tb_di_s he)
def tb_oi (now grace : Nat) (T : tb_T) (i : Nat) : tb_T := fun s => if s < i then tb_o now grace T s else T s
theorem tb_oi_0 {now grace : Nat} {T : tb_T} : tb_oi now grace T 0 = T := by
  funext s
  exact if_neg (Nat.not_lt_zero s)
theorem tb_oi_e {now grace : Nat} {T : tb_T} (h : tb_ok T) : tb_oi now grace T 704 = tb_o now grace T := by
  funext s
  unfold tb_oi
  by_cases hs : s < 704
  · rw [if_pos hs]
  · rw [if_neg hs]
    cases h2 : T s with
    | none => unfold tb_o; rw [h2]
    | some e => exact absurd (tb_lt h h2) hs
theorem tb_oi_n {now grace : Nat} {T : tb_T} {i : Nat} (h : tb_o now grace T i = T i) : tb_oi now grace T (i + 1) = tb_oi now grace T i := by
  funext s
  unfold tb_oi
  by_cases h1 : s < i
  · rw [if_pos h1, if_pos (by omega)]
  · rw [if_neg h1]
    by_cases h2 : s = i
    · subst h2
      rw [if_pos (by omega), h]
    · rw [if_neg (by omega)]
theorem tb_oi_d {now grace : Nat} {T : tb_T} {i : Nat} (h : tb_o now grace T i = none) : va_up (tb_oi now grace T i) i none = tb_oi now grace T (i + 1) := by
  funext s
  by_cases h2 : s = i
  · subst h2
    rw [va_up_self]
    unfold tb_oi
    rw [if_pos (Nat.lt_succ_self _), h]
  · rw [va_up_ne _ _ h2]
    unfold tb_oi
    by_cases h3 : s < i
    · rw [if_pos h3, if_pos (by omega)]
    · rw [if_neg h3, if_neg (by omega)]
theorem tb_oi_i {now grace : Nat} {T : tb_T} {i : Nat} : tb_oi now grace T i i = T i := if_neg (Nat.lt_irrefl i)
theorem tb_di_i {T : tb_T} {i : Nat} : tb_di T i i = T i := if_neg (Nat.lt_irrefl i)
theorem tb_mi_i {T U : tb_T} {i : Nat} : tb_mi T U i i = T i := if_neg (Nat.lt_irrefl i)
theorem old_iff {now t grace : Nat} (h1 : now ≤ 100000) (h2 : t < 2 ^ 31) (h3 : grace ≤ 100) : nI now - nI t < nI grace ↔ ¬ (t + grace ≤ now) := by
  rw [Int32.lt_iff_toInt_lt, Int32.toInt_sub, nI_toInt (by omega), nI_toInt h2, nI_toInt (by omega)]
  unfold Int.bmod
  split <;> omega
end
section
def bI (b : Bool) : Int32 := if b = true then 1 else 0
theorem bI_t {b : Bool} (h : b = true) : bI b = 1 := if_pos h
theorem bI_f {b : Bool} (h : b = false) : bI b = 0 := by subst h; rfl
theorem bI_or (b : Bool) : bI b = 0 ∨ bI b = 1 := by cases b <;> simp [bI]
theorem bI_0 {b : Bool} : bI b = 0 ↔ b = false := by cases b <;> simp [bI]
def cw_e (F : Nat → Prop) (M : mp_M) (q : Nat) (e : en_E) : Prop := ¬ F q ∧ M q = some (.inr (ci_E, [.int (nI (en_k e)), .int (nI (en_s e)), .int (nI (en_p e)), .int (en_v e), .int (nI (en_t e))]))
def cw_o (F : Nat → Prop) (M : mp_M) (o : Option Nat) (w : Option en_E) : Prop := (o = none ∧ w = none) ∨ ∃ (q : Nat) (e : en_E), o = some q ∧ w = some e ∧ cw_e F M q e
def cw_f (F : Nat → Prop) (M : mp_M) (f : Nat → Option Nat) (T : tb_T) : Prop := ∀ s, s < 704 → cw_o F M (f s) (T s)
abbrev ar_q (c : ClassId) (n : Nat) (f : Nat → Option Nat) : va_E := .inl (c, n, .inr (.inr (.inr (.inr f))))
abbrev ar_i (c : ClassId) (n : Nat) (f : Nat → Int32) : va_E := .inl (c, n, .inl f)
abbrev ob_T (tier sl : Nat) (T : tb_T) : va_E := .inr (ci_T, [.int (nI tier), .ref sl, .int (nI (tb_n T)), .int (nI (tb_w T))])
def cw_t (g : gx_T) (F : Nat → Prop) (M : mp_M) (a sl tier : Nat) (T : tb_T) : Prop := ¬ F a ∧ ¬ F sl ∧ tb_ok T ∧ M a = some (ob_T tier sl T) ∧ ∃ f : Nat → Option Nat, M sl = some (ar_q (gx_E g) 704 f) ∧ cw_f F M f T
theorem ne_o {M : mp_M} {q a c1 c2 : Nat} {f1 f2 : List Value} (h1 : M q = some (.inr (c1, f1))) (h2 : M a = some (.inr (c2, f2))) (hc : c1 ≠ c2) : q ≠ a := by
  intro h
  subst h
  rw [h1] at h2
  cases h2
  exact hc rfl
theorem ne_a {M : mp_M} {q a : Nat} {u : Nat × List Value} {y : ClassId × vp_A} (h1 : M q = some (.inr u)) (h2 : M a = some (.inl y)) : q ≠ a := by
  intro h
  subst h
  rw [h1] at h2
  cases h2
theorem ne_n {M : mp_M} {q a : Nat} {u : va_E} (h1 : M q = some u) (h2 : M a = none) : q ≠ a := by
  intro h
  subst h
  rw [h1] at h2
  cases h2

def nE (P : Nat → Prop) (M : mp_M) : Prop := ∀ (q : Nat) (fs : List Value), P q → M q ≠ some (.inr (ci_E, fs))
theorem cw_e.k {F P : Nat → Prop} {M M' : mp_M} {q : Nat} {e : en_E} (h : cw_e F M q e) (hk : mp_k P M M') (hn : nE P M) : cw_e F M' q e := ⟨h.1, hk _ _ (fun z => hn q _ z h.2) h.2⟩
theorem cw_o.k {F P : Nat → Prop} {M M' : mp_M} {o : Option Nat} {w : Option en_E} (h : cw_o F M o w) (hk : mp_k P M M') (hn : nE P M) : cw_o F M' o w := by
  rcases h with h | ⟨q, e, h1, h2, h3⟩
  · exact Or.inl h
  · exact Or.inr ⟨q, e, h1, h2, h3.k hk hn⟩
theorem cw_f.k {F P : Nat → Prop} {M M' : mp_M} {f : Nat → Option Nat} {T : tb_T} (h : cw_f F M f T) (hk : mp_k P M M') (hn : nE P M) : cw_f F M' f T := fun s hs => (h s hs).k hk hn
theorem cw_t.k {g : gx_T} {F P : Nat → Prop} {M M' : mp_M} {a sl tier : Nat} {T : tb_T} (h : cw_t g F M a sl tier T) (hk : mp_k P M M') (hn : nE P M) (ha : ¬ P a) (hs : ¬ P sl) : cw_t g F M' a sl tier T := by
  obtain ⟨h1, h2, h3, h4, f, h5, h6⟩ := h
  exact ⟨h1, h2, h3, hk _ _ ha h4, f, hk _ _ hs h5, h6.k hk hn⟩
theorem nE_t {g : gx_T} {F : Nat → Prop} {M : mp_M} {a sl tier : Nat} {T : tb_T} (h : cw_t g F M a sl tier T) : nE (fun q => q = a ∨ q = sl) M := by
  obtain ⟨h1, h2, h3, h4, f, h5, h6⟩ := h
  intro q fs hq
  rcases hq with rfl | rfl
  · rw [h4]
    intro z
    cases z
  · rw [h5]
    intro z
    cases z
theorem nE_f {F : Nat → Prop} {M : mp_M} {P : Nat → Prop} (h : ∀ q, P q → F q) {q : Nat} {e : en_E} (he : cw_e F M q e) : ¬ P q := fun z => he.1 (h q z)
theorem cw_t_up {g : gx_T} {F : Nat → Prop} {M : mp_M} {a sl tier tier0 sl0 : Nat} {T0 T' : tb_T} {f0 f' : Nat → Option Nat} (ha : ¬ F a) (hs : ¬ F sl) (hMa : M a = some (ob_T tier0 sl0 T0)) (hMs : M sl = some (ar_q (gx_E g) 704 f0)) (hok : tb_ok T') (hf : cw_f F M f' T') : cw_t g F (mp_u (mp_u M sl (ar_q (gx_E g) 704 f')) a (ob_T tier sl T')) a sl tier T' := by
  have hne : sl ≠ a := fun z => ne_a hMa hMs z.symm
  refine ⟨ha, hs, hok, mp_us, f', by rw [mp_un hne]; exact mp_us, fun s h => ?_⟩
  rcases hf s h with h1 | ⟨q, e, h1, h2, h3⟩
  · exact Or.inl h1
  · refine Or.inr ⟨q, e, h1, h2, h3.1, ?_⟩
    rw [mp_un (ne_o h3.2 hMa (by decide)), mp_un (ne_a h3.2 hMs)]
    exact h3.2
theorem cw_t_kp {M : mp_M} {a sl : Nat} {A B : va_E} : mp_k (fun q => q = a ∨ q = sl) M (mp_u (mp_u M sl A) a B) := (mp_k.up (Or.inr rfl)).tr (mp_k.up (Or.inl rfl))
theorem en_w_I {e f : en_E} (he : en_ok e) (hf : en_ok f) : en_w e f = true ↔ (nI (en_p f) < nI (en_p e) ∨ (nI (en_p e) = nI (en_p f) ∧ (nI (en_k f) < nI (en_k e) ∨ (nI (en_k e) = nI (en_k f) ∧ (en_v f < en_v e ∨ (en_v e = en_v f ∧ nI (en_t f) < nI (en_t e))))))) := by
  obtain ⟨h1, h2, h3, h4, h5, h6, h7, h8⟩ := he
  obtain ⟨f1, f2, f3, f4, f5, f6, f7, f8⟩ := hf
  rw [en_w_t, nI_ltI (by omega) (by omega), nI_eq (by omega) (by omega), nI_ltI (by omega) (by omega), nI_eq (by omega) (by omega), Int32.lt_iff_toInt_lt, ← Int32.toInt_inj, nI_ltI (by omega) (by omega)]
def pl (r c : Int32) : Bool := decide (0 ≤ r.toInt ∧ r.toInt < 16 ∧ 0 ≤ c.toInt ∧ c.toInt < 8)
def sp_ok (p : Int32) : Bool := decide (0 ≤ p.toInt ∧ p.toInt ≤ 9999)
theorem i0 : (0 : Int32).toInt = 0 := by decide
theorem pl_nI {r c : Nat} (hr : r < 16) (hc : c < 8) : pl (nI r) (nI c) = true := by
  unfold pl
  rw [nI_toInt (by omega), nI_toInt (by omega)]
  exact decide_eq_true ⟨by omega, by omega, by omega, by omega⟩
theorem pl_of {r c : Int32} (h : pl r c = true) : ∃ i j : Nat, i < 16 ∧ j < 8 ∧ r = nI i ∧ c = nI j := by
  obtain ⟨h1, h2, h3, h4⟩ := of_decide_eq_true h
  obtain ⟨i, a1, rfl⟩ := nI_of (x := r) (by rw [Int32.lt_iff_toInt_lt, i0]; omega)
  obtain ⟨j, a2, rfl⟩ := nI_of (x := c) (by rw [Int32.lt_iff_toInt_lt, i0]; omega)
  rw [nI_toInt a1] at h1 h2
  rw [nI_toInt a2] at h3 h4
  exact ⟨i, j, by omega, by omega, rfl, rfl⟩
theorem sp_of {p : Int32} (h : sp_ok p = true) : ∃ i : Nat, i ≤ 9999 ∧ p = nI i := by
  obtain ⟨h1, h2⟩ := of_decide_eq_true h
  obtain ⟨i, a1, rfl⟩ := nI_of (x := p) (by rw [Int32.lt_iff_toInt_lt, i0]; omega)
  rw [nI_toInt a1] at h1 h2
  exact ⟨i, by omega, rfl⟩
theorem tb_i_s {e : en_E} : tb_i (some e) = decide (en_k e = 2) := rfl
theorem tb_a_n {T : tb_T} {e : en_E} (h : T (en_s e) = none) : tb_a T e = va_up T (en_s e) (some e) := by
  unfold tb_a
  rw [h]
  rfl
theorem tb_a_w {T : tb_T} {e f : en_E} (h : T (en_s e) = some f) (hw : en_w e f = true) : tb_a T e = va_up T (en_s e) (some e) := by
  unfold tb_a
  rw [h]
  simp only [en_m, hw, if_true]
theorem tb_a_l {T : tb_T} {e f : en_E} (h : T (en_s e) = some f) (hw : en_w e f = false) : tb_a T e = T := by
  unfold tb_a
  rw [h]
  simp only [en_m, hw]
  funext s
  by_cases hs : s = en_s e
  · subst hs
    rw [va_up_self, h]
    rfl
  · rw [va_up_ne _ _ hs]
theorem cw_f_up {F : Nat → Prop} {M : mp_M} {f : Nat → Option Nat} {T : tb_T} (h : cw_f F M f T) {s : Nat} {o : Option Nat} {w : Option en_E} (ho : cw_o F M o w) : cw_f F M (va_up f s o) (va_up T s w) := by
  intro j hj
  by_cases hs : j = s
  · subst hs
    rw [va_up_self, va_up_self]
    exact ho
  · rw [va_up_ne _ _ hs, va_up_ne _ _ hs]
    exact h j hj
end
